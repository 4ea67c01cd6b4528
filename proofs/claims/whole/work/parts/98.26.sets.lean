/-! rounds: the reference's sets and its numbers of plans -/
def cn (k s : Nat) : Nat := ((List.range s).filter (fun x => decide (pc x ≤ k))).length
def ss (k i : Nat) : Nat := ((List.range 64).filter (fun x => decide (pc x ≤ k))).getD i 0
def sm (k : Nat) : Nat := if k = 1 then 7 else 22
theorem ss_c1 : ∀ s, s < 64 → (pc s ≤ 1 → ss 1 (cn 1 s) = s ∧ cn 1 (s + 1) = cn 1 s + 1 ∧ cn 1 s < 22) ∧ (¬ pc s ≤ 1 → cn 1 (s + 1) = cn 1 s) := by decide +kernel
theorem ss_c2 : ∀ s, s < 64 → (pc s ≤ 2 → ss 2 (cn 2 s) = s ∧ cn 2 (s + 1) = cn 2 s + 1 ∧ cn 2 s < 22) ∧ (¬ pc s ≤ 2 → cn 2 (s + 1) = cn 2 s) := by decide +kernel
theorem ss_c {k : Nat} (hk : k = 1 ∨ k = 2) : ∀ s, s < 64 → (pc s ≤ k → ss k (cn k s) = s ∧ cn k (s + 1) = cn k s + 1 ∧ cn k s < 22) ∧ (¬ pc s ≤ k → cn k (s + 1) = cn k s) := by
  rcases hk with rfl | rfl
  · exact ss_c1
  · exact ss_c2
theorem sm_c {k : Nat} (hk : k = 1 ∨ k = 2) : cn k 64 = sm k := by
  rcases hk with rfl | rfl <;> decide +kernel
theorem ss_m1 : ∀ i, i < 7 → (∀ j, j < i → ss 1 j < ss 1 i) ∧ ss 1 i < 64 ∧ pc (ss 1 i) ≤ 1 ∧ (ss 1 i = 0 ↔ i = 0) := by decide +kernel
theorem ss_m2 : ∀ i, i < 22 → (∀ j, j < i → ss 2 j < ss 2 i) ∧ ss 2 i < 64 ∧ pc (ss 2 i) ≤ 2 ∧ (ss 2 i = 0 ↔ i = 0) := by decide +kernel
theorem ss_m {k : Nat} (hk : k = 1 ∨ k = 2) : ∀ i, i < sm k → (∀ j, j < i → ss k j < ss k i) ∧ ss k i < 64 ∧ pc (ss k i) ≤ k ∧ (ss k i = 0 ↔ i = 0) := by
  rcases hk with rfl | rfl
  · exact ss_m1
  · exact ss_m2
theorem ss_s1 : ∀ s, s < 64 → pc s ≤ 1 → cn 1 s < 7 := by decide +kernel
theorem ss_s2 : ∀ s, s < 64 → pc s ≤ 2 → cn 2 s < 22 := by decide +kernel
theorem ss_s {k : Nat} (hk : k = 1 ∨ k = 2) : ∀ s, s < 64 → pc s ≤ k → cn k s < sm k ∧ ss k (cn k s) = s := by
  intro s hs hp
  rcases hk with rfl | rfl
  · exact ⟨ss_s1 s hs hp, ((ss_c1 s hs).1 hp).1⟩
  · exact ⟨ss_s2 s hs hp, ((ss_c2 s hs).1 hp).1⟩
theorem ls18 {s : Nat} (hs : s < 64) (K : Int32 → Option PI) : f_Ref_laySets_18 (nI s) K mb_fu 0 0 = K (nI (pc s)) := by
  have st : ∀ (d : Nat) (hd : d < 6) (x n : Nat), f_Ref_laySets_18 (nI s) K (n + 1) (nI x) (nI d) = f_Ref_laySets_18 (nI s) K n (nI (x + (tb s d).toNat)) (nI (d + 1)) := by
    intro d hd x n
    show f_Ref_laySets_18_b (nI s) K _ (nI x) (nI d) = _
    unfold f_Ref_laySets_18_b
    rw [if_neg (nge (b := 6) hd (by decide) (y := 6) rfl), letsN, letsN, tbv s hs d hd, nI_add, nI_1]
  obtain ⟨f, hf⟩ : ∃ f, mb_fu = f + 7 := ⟨mb_fu - 7, by unfold mb_fu; omega⟩
  rw [hf, ← nI_0, st 0 (by decide), st 1 (by decide), st 2 (by decide), st 3 (by decide), st 4 (by decide), st 5 (by decide)]
  show f_Ref_laySets_18_b (nI s) K _ _ (nI 6) = _
  unfold f_Ref_laySets_18_b
  rw [if_pos (by decide)]
  unfold pc
  rw [Nat.zero_add]
theorem ls7 {k : Nat} (hk : k = 1 ∨ k = 2) : ∀ (r s f : Nat) (P : PI), s + r = 64 → r < f → P 0 36 = nI (cn k s) → (∀ i, i < cn k s → P 38 i = nI (ss k i)) → ∃ V : PI, f_Ref_laySets_7 (nI k) f (nI s) P = some V ∧ eqx [38] [36] P V ∧ V 0 36 = nI (sm k) ∧ ∀ i, i < sm k → V 38 i = nI (ss k i) := by
  intro r
  induction r with
  | zero =>
    intro s f P e hf h1 h2
    obtain ⟨f, rfl⟩ : ∃ m, f = m + 1 := ⟨f - 1, by omega⟩
    have es : s = 64 := by omega
    subst es
    rw [sm_c hk] at h1 h2
    refine ⟨P, ?_, eqx_rf _ _ _, h1, h2⟩
    show f_Ref_laySets_7_b _ _ _ _ = _
    unfold f_Ref_laySets_7_b
    rw [if_pos (by decide)]
  | succ r ih =>
    intro s f P e hf h1 h2
    obtain ⟨f, rfl⟩ : ∃ m, f = m + 1 := ⟨f - 1, by omega⟩
    have hs : s < 64 := by omega
    obtain ⟨c1, c2⟩ := ss_c hk s hs
    show ∃ V : PI, f_Ref_laySets_7_b (nI k) (f_Ref_laySets_7 (nI k) f) (nI s) P = some V ∧ _
    unfold f_Ref_laySets_7_b
    rw [if_neg (nge (b := 64) hs (by decide) (y := 64) rfl), letsN, letsN, jnsN, ls18 hs]
    have pl := pc_le s hs
    by_cases q : pc s ≤ k
    · obtain ⟨a1, a2, a3⟩ := c1 q
      have nl : ¬ nI k < nI (pc s) := fun z => by
        have := Int32.lt_iff_toInt_lt.mp z
        rw [nI_toInt (by omega), nI_toInt (by omega)] at this
        omega
      have u0 : mb_u2 P 38 (cn k s) (nI s) 0 36 = nI (cn k s) := by rw [u2_ap, if_neg (by omega)]; exact h1
      simp only [if_neg nl, letsN, h1, chkN a3 (by decide), nI_clamp (show cn k s < 2 ^ 31 by omega), u0, nI_1]
      obtain ⟨V, k1, k2, k3, k4⟩ := ih (s + 1) f (mb_uo (mb_u2 P 38 (cn k s) (nI s)) 36 (nI (cn k s + 1))) (by omega) (by omega) (by rw [uo_ap, if_pos ⟨rfl, rfl⟩, a2]) (fun i hi => by
        rw [uo_ap, if_neg (by omega), u2_ap]
        rw [a2] at hi
        by_cases y : i = cn k s
        · rw [if_pos ⟨rfl, y⟩, y, a1]
        · rw [if_neg (fun z => y z.2)]
          exact h2 i (by omega))
      exact ⟨V, k1, eqx_tr (eqx_uo (eqx_u2 (eqx_rf _ _ _) (by decide) (by decide) _ _) (by decide) _) k2, k3, k4⟩
    · have a2 := c2 q
      have nl : nI k < nI (pc s) := nI_lt (by omega) (by omega)
      simp only [if_pos nl, letsN, nI_1]
      exact ih (s + 1) f P (by omega) (by omega) (by rw [a2]; exact h1) (fun i hi => h2 i (by rw [a2] at hi; exact hi))
theorem lay_sets {k : Nat} (hk : k = 1 ∨ k = 2) (P : PI) : ∃ V : PI, f_Ref_laySets P (nI k) = some V ∧ eqx [38] [36] P V ∧ V 0 36 = nI (sm k) ∧ ∀ i, i < sm k → V 38 i = nI (ss k i) := by
  obtain ⟨V, k1, k2, k3, k4⟩ := ls7 hk 64 0 mb_fu (mb_uo P 36 0) (by omega) (fu_lt (by omega)) (by rw [uo_ap, if_pos ⟨rfl, rfl⟩]; rfl) (fun i hi => absurd hi (by show ¬ i < 0; omega))
  refine ⟨V, ?_, eqx_tr (eqx_uo (eqx_rf _ _ _) (by decide) _) k2, k3, k4⟩
  unfold f_Ref_laySets
  rw [letsN, letsN, ← nI_0]
  exact k1
/-- the places of a number -/
def di (m : Nat) : Nat → Nat → Nat → Nat
  | 0, _, _ => 0
  | n + 1, l, j => if j = n then l % m else di m n (l / m) j
theorem di_lt {m : Nat} (hm : 0 < m) : ∀ n l j, di m n l j < m
  | 0, _, _ => hm
  | n + 1, l, j => by
    unfold di
    split
    · exact Nat.mod_lt _ hm
    · exact di_lt hm n _ _
theorem dec_l {k m : Nat} (hm : m = sm k) (hm2 : 1 ≤ m ∧ m ≤ 22) (K : PI → Option (Int64 × PI)) : ∀ (n f l : Nat) (P : PI), n ≤ 4 → n < f → l < 2 ^ 31 → P 0 36 = nI m → (∀ i, i < m → P 38 i = nI (ss k i)) → ∃ V : PI, f_Ref_rounds_99 K f (nI l) (nI n + (-1)) P = K V ∧ eqx [40] [] P V ∧ (∀ j, j < n → V 40 j = nI (ss k (di m n l j))) ∧ ∀ j, n ≤ j → V 40 j = P 40 j := by
  intro n
  induction n with
  | zero =>
    intro f l P _ hf _ _ _
    obtain ⟨f, rfl⟩ : ∃ m, f = m + 1 := ⟨f - 1, by omega⟩
    refine ⟨P, ?_, eqx_rf _ _ _, fun j hj => absurd hj (by omega), fun _ _ => rfl⟩
    show f_Ref_rounds_99_b _ _ _ _ _ = _
    unfold f_Ref_rounds_99_b
    rw [if_pos (by decide)]
  | succ n ih =>
    intro f l P hn hf hl h1 h2
    obtain ⟨f, rfl⟩ : ∃ m, f = m + 1 := ⟨f - 1, by omega⟩
    have lm := Nat.mod_lt l (show 0 < m by omega)
    have e1 : mb_u2 P 40 n (nI (ss k (l % m))) 0 36 = nI m := by rw [u2_ap, if_neg (by omega)]; exact h1
    obtain ⟨V, k1, k2, k3, k4⟩ := ih f (l / m) (mb_u2 P 40 n (nI (ss k (l % m)))) (by omega) (by omega) (Nat.lt_of_le_of_lt (Nat.div_le_self _ _) hl) e1 (fun i hi => by rw [u2_ap, if_neg (by omega)]; exact h2 i hi)
    refine ⟨V, ?_, eqx_tr (eqx_u2 (eqx_rf _ _ _) (by decide) (by decide) _ _) k2, fun j hj => ?_, fun j hj => ?_⟩
    · show f_Ref_rounds_99_b K (f_Ref_rounds_99 K f) (nI l) (nI (n + 1) + (-1)) P = _
      unfold f_Ref_rounds_99_b mb_dvi
      have z0 : ¬ nI m = 0 := nI_ne0 (by omega) (by omega)
      rw [pk_m1, if_neg (nI_pos (by omega)), h1, if_neg z0, pk_rem (a := l) (d := m) hl (by omega) (by omega), chkN (show l % m < 22 by omega) (by decide), chkN (by omega) (by decide), letsN, nI_clamp (show n < 2 ^ 31 by omega), nI_clamp (show l % m < 2 ^ 31 by omega), h2 _ lm, e1, if_neg z0, letsN, letsN, pk_div (a := l) (d := m) hl (by omega) (by omega)]
      exact k1
    · by_cases ej : j = n
      · subst ej
        rw [k4 j (Nat.le_refl _), u2_ap, if_pos ⟨rfl, rfl⟩]
        show _ = nI (ss k (if j = j then l % m else _))
        rw [if_pos rfl]
      · rw [k3 j (by omega)]
        show _ = nI (ss k (if j = n then l % m else di m n (l / m) j))
        rw [if_neg ej]
    · rw [k4 j (by omega), u2_ap, if_neg (by omega)]
theorem r54 {P : PI} {m w : Nat} (hw : w ≤ 4) (h1 : P 0 36 = nI m) (K : Int32 → Option (Int64 × PI)) : ∀ (r j f : Nat), j + r = w → r < f → f_Ref_rounds_54 P (nI w) K f (nI (m ^ j)) (nI j) = K (nI (m ^ w)) := by
  intro r
  induction r with
  | zero =>
    intro j f e hf
    obtain ⟨f, rfl⟩ : ∃ m, f = m + 1 := ⟨f - 1, by omega⟩
    have ej : j = w := by omega
    subst ej
    show f_Ref_rounds_54_b _ _ _ _ _ _ = _
    unfold f_Ref_rounds_54_b
    rw [if_pos (nI_le (Nat.le_refl _) (by omega))]
  | succ r ih =>
    intro j f e hf
    obtain ⟨f, rfl⟩ : ∃ m, f = m + 1 := ⟨f - 1, by omega⟩
    show f_Ref_rounds_54_b _ _ _ _ _ _ = _
    unfold f_Ref_rounds_54_b
    rw [if_neg (nI_ge (by omega) (by omega)), letsN, letsN, h1, pk_mul, nI_1, ← Nat.pow_succ]
    exact ih (j + 1) f (by omega) (by omega)
theorem r191 (K : PI → Option (Int64 × PI)) : ∀ (r i n : Nat) (P : PI), i + r = 4 → r < n → ∃ V : PI, f_Ref_rounds_191 K n (nI i) P = K V ∧ eqx [39] [] P V ∧ (∀ k, i ≤ k → k < 4 → V 39 k = P 40 k) ∧ ∀ k, k < i → V 39 k = P 39 k := by
  intro r
  induction r with
  | zero =>
    intro i n P e hn
    obtain ⟨n, rfl⟩ : ∃ m, n = m + 1 := ⟨n - 1, by omega⟩
    have ei : i = 4 := by omega
    subst ei
    refine ⟨P, ?_, eqx_rf _ _ _, fun k a b => absurd b (by omega), fun _ _ => rfl⟩
    show f_Ref_rounds_191_b _ _ _ _ = _
    unfold f_Ref_rounds_191_b
    rw [if_pos (by decide)]
  | succ r ih =>
    intro i n P e hn
    obtain ⟨n, rfl⟩ : ∃ m, n = m + 1 := ⟨n - 1, by omega⟩
    obtain ⟨V, k1, k2, k3, k4⟩ := ih (i + 1) n (mb_u2 P 39 i (P 40 i)) (by omega) (by omega)
    refine ⟨V, ?_, eqx_tr (eqx_u2 (eqx_rf _ _ _) (by decide) (by decide) _ _) k2, fun k a b => ?_, fun k a => ?_⟩
    · show f_Ref_rounds_191_b _ _ _ _ = _
      unfold f_Ref_rounds_191_b
      rw [if_neg (nge (b := 4) (by omega) (by decide) (y := 4) rfl), chkN (by omega) (by decide), chkN (by omega) (by decide), letsN, letsN, nI_1, nI_clamp (by omega)]
      exact k1
    · by_cases ek : k = i
      · subst ek
        rw [k4 k (by omega), u2_ap, if_pos ⟨rfl, rfl⟩]
      · rw [k3 k (by omega) b, u2_ap, if_neg (by omega)]
    · rw [k4 k (by omega), u2_ap, if_neg (by omega)]
