/-! quarrels -/
def anyR (p : Nat → Bool) : Nat → Nat → Bool
  | _, 0 => false
  | k, m + 1 => p k || anyR p (k + 1) m
theorem anyR_iff (p : Nat → Bool) : ∀ (m k : Nat), anyR p k m = true ↔ ∃ j, k ≤ j ∧ j < k + m ∧ p j = true
  | 0, k => ⟨fun h => by simp [anyR] at h, fun ⟨j, h1, h2, _⟩ => absurd h2 (by omega)⟩
  | m + 1, k => by
    simp only [anyR, Bool.or_eq_true, anyR_iff p m (k + 1)]
    constructor
    · rintro (h | ⟨j, h1, h2, h3⟩)
      · exact ⟨k, by omega, by omega, h⟩
      · exact ⟨j, by omega, by omega, h3⟩
    · rintro ⟨j, h1, h2, h3⟩
      by_cases e : j = k
      · exact Or.inl (e ▸ h3)
      · exact Or.inr ⟨j, by omega, by omega, h3⟩
theorem anyR_cong {p q : Nat → Bool} : ∀ (m k : Nat), (∀ j, k ≤ j → j < k + m → p j = q j) → anyR p k m = anyR q k m
  | 0, _, _ => rfl
  | m + 1, k, h => by
    rw [anyR, anyR, h k (by omega) (by omega), anyR_cong m (k + 1) (fun j h1 h2 => h j (by omega) (by omega))]
def bT (P : PI) (s u d day : Int32) (j : Nat) : Bool := bU P s u d j && bOn P day j
theorem tells_l {P : PI} {c : Nat} (hc : c ≤ 33) (h : P 0 5 = nI c) (s u d day : Int32) : ∀ (m k n : Nat), k + m = c → m < n → f_Decrees_tells_3 P s u d day n (nI k) = some (if anyR (bT P s u d day) k m = true then 1 else 0) := by
  intro m
  induction m with
  | zero =>
    intro k n e hn
    obtain ⟨n, rfl⟩ : ∃ m, n = m + 1 := ⟨n - 1, by omega⟩
    show f_Decrees_tells_3_b _ _ _ _ _ _ _ = _
    unfold f_Decrees_tells_3_b
    rw [h, if_pos (nI_le (by omega) (by omega))]
    rfl
  | succ m ih =>
    intro k n e hn
    obtain ⟨n, rfl⟩ : ∃ m, n = m + 1 := ⟨n - 1, by omega⟩
    show f_Decrees_tells_3_b _ _ _ _ _ (f_Decrees_tells_3 P s u d day n) _ = _
    unfold f_Decrees_tells_3_b
    rw [h, if_neg (nI_ge (by omega) (by omega))]
    simp only [ofUse_c (P := P) (show k < 33 by omega), onDay_c (P := P) (show k < 33 by omega), bd1s, lets, ifz, nI_1, ih (k + 1) n (by omega) (by omega)]
    by_cases hb : bT P s u d day k = true
    · rw [if_pos (show anyR (bT P s u d day) k (m + 1) = true by rw [anyR, hb]; rfl)]
      unfold bT at hb
      rw [Bool.and_eq_true] at hb
      rw [if_pos hb.1, if_pos hb.2]
    · rw [Bool.not_eq_true] at hb
      rw [show anyR (bT P s u d day) k (m + 1) = anyR (bT P s u d day) (k + 1) m by rw [anyR, hb]; rfl]
      unfold bT at hb
      rw [Bool.and_eq_false_iff] at hb
      rcases hb with z | z
      · rw [if_neg (c := bU P s u d k = true) (by rw [z]; decide)]
      · rw [if_neg (c := bOn P day k = true) (by rw [z]; decide)]
        split <;> rfl
theorem tells_c {P : PI} {c : Nat} (hc : c ≤ 33) (h : P 0 5 = nI c) (s u d day : Int32) : f_Decrees_tells P s u d day = some (if anyR (bT P s u d day) 0 c = true then 1 else 0) := by
  unfold f_Decrees_tells
  rw [lets]
  exact tells_l hc h s u d day c 0 mb_fu (by omega) (fu_lt (by omega))
def bTR (P : PI) (s u d day : Int32) (j : Nat) : Bool := decide ((P 15 (300 + 5 * j) = s ∧ P 15 (300 + 5 * j + 1) = u ∧ P 15 (300 + 5 * j + 2) = d) ∧ (P 15 (300 + 5 * j + 3)).toInt ≤ day.toInt ∧ day.toInt ≤ (P 15 (300 + 5 * j + 4)).toInt)
set_option maxHeartbeats 1000000 in
theorem tellsR_l {P : PI} {c : Nat} (hc : c ≤ 33) (h : P 14 1 = nI c) (s u d day : Int32) : ∀ (m k n : Nat), k + m = c → m < n → f_Ref_tells_3 P s u d day n (nI k) = some (if anyR (bTR P s u d day) k m = true then 1 else 0) := by
  intro m
  induction m with
  | zero =>
    intro k n e hn
    obtain ⟨n, rfl⟩ : ∃ m, n = m + 1 := ⟨n - 1, by omega⟩
    show f_Ref_tells_3_b _ _ _ _ _ _ _ = _
    unfold f_Ref_tells_3_b
    rw [one2, cl1, h, if_pos (nI_le (by omega) (by omega))]
    rfl
  | succ m ih =>
    intro k n e hn
    obtain ⟨n, rfl⟩ : ∃ m, n = m + 1 := ⟨n - 1, by omega⟩
    show f_Ref_tells_3_b _ _ _ _ _ (f_Ref_tells_3 P s u d day n) _ = _
    unfold f_Ref_tells_3_b
    rw [one2, cl1, h, if_neg (nI_ge (by omega) (by omega))]
    simp only [lets, ix5, nI_1, nI_2, nI_3, nI_4, chkN (show 300 + 5 * k < 600 by omega) (by decide), chkN (show 300 + 5 * k + 1 < 600 by omega) (by decide), chkN (show 300 + 5 * k + 2 < 600 by omega) (by decide), chkN (show 300 + 5 * k + 3 < 600 by omega) (by decide), chkN (show 300 + 5 * k + 4 < 600 by omega) (by decide), nI_clamp (show 300 + 5 * k < 2 ^ 31 by omega), nI_clamp (show 300 + 5 * k + 1 < 2 ^ 31 by omega), nI_clamp (show 300 + 5 * k + 2 < 2 ^ 31 by omega), nI_clamp (show 300 + 5 * k + 3 < 2 ^ 31 by omega), nI_clamp (show 300 + 5 * k + 4 < 2 ^ 31 by omega), in_c, bd1s, ifz, tt, ih (k + 1) n (by omega) (by omega)]
    by_cases hb : bTR P s u d day k = true
    · rw [if_pos (show anyR (bTR P s u d day) k (m + 1) = true by rw [anyR, hb]; rfl)]
      unfold bTR at hb
      rw [decide_eq_true_eq] at hb
      rw [if_pos hb.1.1, if_pos hb.1.2.1, if_pos hb.1.2.2, if_pos hb.2]
    · rw [Bool.not_eq_true] at hb
      rw [show anyR (bTR P s u d day) k (m + 1) = anyR (bTR P s u d day) (k + 1) m by rw [anyR, hb]; rfl]
      unfold bTR at hb
      rw [decide_eq_false_iff_not] at hb
      (repeat' split) <;> first | rfl | (exfalso; simp_all; done)
theorem tellsR_c {P : PI} {c : Nat} (hc : c ≤ 33) (h : P 14 1 = nI c) (s u d day : Int32) : f_Ref_tells P s u d day = some (if anyR (bTR P s u d day) 0 c = true then 1 else 0) := by
  unfold f_Ref_tells
  rw [lets]
  exact tellsR_l hc h s u d day c 0 mb_fu (by omega) (fu_lt (by omega))
theorem tells_eq {c : Nat} {P7 PR : PI} (h : rDecN c P7 PR) (s u d day : Int32) : anyR (bTR PR s u d day) 0 c = anyR (bT P7 s u d day) 0 c := by
  refine anyR_cong c 0 (fun j _ hj => ?_)
  obtain ⟨e1, e2, e3, e4, e5, -⟩ := h.2.2.2 j (by omega)
  unfold bTR bT bU bOn
  rw [← e1, ← e2, ← e3, ← e4, ← e5, Bool.eq_iff_iff]
  simp only [Bool.and_eq_true, decide_eq_true_eq]
/-- is there a quarrel that day -/
def qd (P : PI) (c : Nat) (u d : Int32) (day : Nat) : Bool := anyR (bT P 97 u d (nI day)) 0 c && anyR (bT P 98 u d (nI day)) 0 c
/-- the first of r days from a on, or -4 -/
def fstQ (q : Nat → Bool) : Nat → Nat → Int32
  | _, 0 => -4
  | a, r + 1 => if q a then nI a else fstQ q (a + 1) r
theorem rq_l {c : Nat} {P7 PR : PI} (h : rDecN c P7 PR) (u d x3 : Int32) (hx : x3 = 0 ∨ x3 = 1) (K : Int32 → Option Int32) : ∀ (r a n : Nat), a + r = 10000 → r < n → f_Ref_quarrels_42 PR u d x3 K n (nI (fb_ct (qd P7 c u d) a)) (nI a) = if x3 = 1 ∧ fstQ (qd P7 c u d) a r ≠ -4 then some (fstQ (qd P7 c u d) a r) else K (nI (fb_ct (qd P7 c u d) 10000)) := by
  intro r
  induction r with
  | zero =>
    intro a n e hn
    obtain ⟨n, rfl⟩ : ∃ m, n = m + 1 := ⟨n - 1, by omega⟩
    have ea : a = 10000 := by omega
    subst ea
    show f_Ref_quarrels_42_b _ _ _ _ _ _ _ _ = _
    unfold f_Ref_quarrels_42_b
    rw [if_pos (by decide), if_neg (fun z => z.2 rfl)]
  | succ r ih =>
    intro a n e hn
    obtain ⟨n, rfl⟩ : ∃ m, n = m + 1 := ⟨n - 1, by omega⟩
    show f_Ref_quarrels_42_b _ _ _ _ _ (f_Ref_quarrels_42 PR u d x3 K n) _ _ = _
    unfold f_Ref_quarrels_42_b
    rw [if_neg (nge (y := 10000) (b := 10000) (by omega) (by decide) rfl)]
    simp only [tellsR_c h.1 h.2.2.1, tells_eq h, bd1s, ifz, lets, nI_1]
    have ih1 := ih (a + 1) n (by omega) (by omega)
    rw [fb_ct_succ] at ih1
    by_cases q : qd P7 c u d a = true
    · rw [if_pos q] at ih1
      have q2 := q
      unfold qd at q2
      rw [Bool.and_eq_true] at q2
      rw [if_pos q2.1, if_pos q2.2]
      have ef : fstQ (qd P7 c u d) a (r + 1) = nI a := by rw [fstQ, if_pos q]
      have en : nI a ≠ -4 := fun z => by have := congrArg Int32.toInt z; rw [nI_toInt (by omega)] at this; simp at this
      rcases hx with rfl | rfl
      · rw [if_neg (by decide), ih1, if_neg (fun z => absurd z.1 (by decide)), if_neg (fun z => absurd z.1 (by decide))]
      · rw [if_pos rfl, ef, if_pos ⟨rfl, en⟩]
    · rw [if_neg q, Nat.add_zero] at ih1
      have ef : fstQ (qd P7 c u d) a (r + 1) = fstQ (qd P7 c u d) (a + 1) r := by rw [fstQ, if_neg q]
      rw [ef, ← ih1]
      rw [Bool.not_eq_true] at q
      unfold qd at q
      rw [Bool.and_eq_false_iff] at q
      rcases q with q | q
      · rw [if_neg (by rw [q]; decide)]
      · rw [if_neg (c := anyR (bT P7 98 u d (nI a)) 0 c = true) (by rw [q]; decide)]
        split <;> rfl
