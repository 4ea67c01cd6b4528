def ltI (P : PI) (k : Nat) (x l s : Int32) : Prop := (x = -4 ∧ l = -4 ∧ s = -1) ∨ ∃ i, i < k ∧ x = nI i ∧ l = P 3 i ∧ s = P 5 i
theorem ltI_up {P : PI} {k : Nat} {x l s : Int32} (h : ltI P k x l s) : ltI P (k + 1) x l s := by
  rcases h with h | ⟨i, h1, h2⟩
  · exact Or.inl h
  · exact Or.inr ⟨i, by omega, h2⟩
set_option maxHeartbeats 1000000 in
theorem lt_l {c : Nat} {P7 PR : PI} (h : rDecN c P7 PR) (w d day : Int32) (K : Int32 → Option Int32) : ∀ (r k f1 f2 : Nat) (x l s : Int32), k + r = c → r < f1 → r < f2 → ltI P7 k x l s → ∃ x2 l2 s2, f_Decrees_latestOf_7 P7 w d day f1 x (nI k) = some x2 ∧ f_Ref_means_76 PR w d day K f2 l s (nI k) = K l2 ∧ ltI P7 c x2 l2 s2 := by
  have hc := h.1
  intro r
  induction r with
  | zero =>
    intro k f1 f2 x l s e hf1 hf2 hi
    obtain ⟨f1, rfl⟩ : ∃ m, f1 = m + 1 := ⟨f1 - 1, by omega⟩
    obtain ⟨f2, rfl⟩ : ∃ m, f2 = m + 1 := ⟨f2 - 1, by omega⟩
    have ek : k = c := by omega
    subst ek
    refine ⟨x, l, s, ?_, ?_, hi⟩
    · show f_Decrees_latestOf_7_b _ _ _ _ _ _ _ = _
      unfold f_Decrees_latestOf_7_b
      rw [h.2.1, if_pos (nI_le (Nat.le_refl _) (by omega))]
    · show f_Ref_means_76_b _ _ _ _ _ _ _ _ _ = _
      unfold f_Ref_means_76_b
      rw [one2, cl1, h.2.2.1, if_pos (nI_le (Nat.le_refl _) (by omega))]
  | succ r ih =>
    intro k f1 f2 x l s e hf1 hf2 hi
    obtain ⟨f1, rfl⟩ : ∃ m, f1 = m + 1 := ⟨f1 - 1, by omega⟩
    obtain ⟨f2, rfl⟩ : ∃ m, f2 = m + 1 := ⟨f2 - 1, by omega⟩
    obtain ⟨e1, e2, e3, e4, e5, eo⟩ := h.2.2.2 k (by omega)
    have hk33 : k < 33 := by omega
    -- the reference's turn
    have rb : ∀ S : Int32 → Int32 → Int32 → Option Int32, f_Ref_means_76_b PR w d day K S l s (nI k) = if bW P7 w d day k = true then (if P7 5 k < s then S l s (nI (k + 1)) else S (P7 3 k) (P7 5 k) (nI (k + 1))) else S l s (nI (k + 1)) := by
      intro S
      unfold f_Ref_means_76_b
      rw [one2, cl1, h.2.2.1, if_neg (nI_ge (by omega) (by omega))]
      simp only [letsN, jnsN, ix5, nI_1, nI_2, nI_3, nI_4, chkN (show 300 + 5 * k < 600 by omega) (by decide), chkN (show 300 + 5 * k + 1 < 600 by omega) (by decide), chkN (show 300 + 5 * k + 2 < 600 by omega) (by decide), chkN (show 300 + 5 * k + 3 < 600 by omega) (by decide), chkN (show 300 + 5 * k + 4 < 600 by omega) (by decide), nI_clamp (show 300 + 5 * k < 2 ^ 31 by omega), nI_clamp (show 300 + 5 * k + 1 < 2 ^ 31 by omega), nI_clamp (show 300 + 5 * k + 2 < 2 ^ 31 by omega), nI_clamp (show 300 + 5 * k + 3 < 2 ^ 31 by omega), nI_clamp (show 300 + 5 * k + 4 < 2 ^ 31 by omega), ← e1, ← e2, ← e3, ← e4, ← e5, if_true, if_neg (show ¬ (1 : Int32) = 0 by decide)]
      by_cases hb : bW P7 w d day k = true
      · rw [if_pos hb]
        unfold bW at hb
        rw [decide_eq_true_eq] at hb
        rw [if_pos hb.1, if_pos hb.2.1, if_pos hb.2.2.1, if_neg (fun z => by have := Int32.lt_iff_toInt_lt.mp z; omega)]
      · rw [if_neg hb]
        rw [Bool.not_eq_true] at hb
        unfold bW at hb
        rw [decide_eq_false_iff_not] at hb
        by_cases a1 : P7 1 k = 110
        · rw [if_pos a1]
          by_cases a2 : P7 2 k = w
          · rw [if_pos a2]
            by_cases a3 : P7 4 k = d
            · rw [if_pos a3, if_pos (Int32.lt_iff_toInt_lt.mpr (by
                rcases Int.lt_or_le day.toInt (P7 5 k).toInt with q | q
                · exact q
                · exact absurd ⟨a1, a2, a3, q⟩ hb))]
            · rw [if_neg a3]
          · rw [if_neg a2]
        · rw [if_neg a1]
    -- the class's turn
    have cb : ∀ S : Int32 → Int32 → Option Int32, f_Decrees_latestOf_7_b P7 w d day S x (nI k) = if bW P7 w d day k = true then (if x < 0 then S (nI k) (nI (k + 1)) else mb_chk x 33 (if P7 5 k < P7 5 x.toNatClampNeg then S x (nI (k + 1)) else S (nI k) (nI (k + 1)))) else S x (nI (k + 1)) := by
      intro S
      unfold f_Decrees_latestOf_7_b
      rw [h.2.1, if_neg (nI_ge (by omega) (by omega)), ofWord_c hk33, bd1s, ifz]
      simp only [letsN, jnsN, nI_1, chkN hk33 (by decide), nI_clamp (show k < 2 ^ 31 by omega)]
    by_cases hb : bW P7 w d day k = true
    · rcases hi with ⟨rfl, rfl, rfl⟩ | ⟨i, hi1, rfl, rfl, rfl⟩
      · obtain ⟨x2, l2, s2, g1, g2, g3⟩ := ih (k + 1) f1 f2 (nI k) (P7 3 k) (P7 5 k) (by omega) (by omega) (by omega) (Or.inr ⟨k, by omega, rfl, rfl, rfl⟩)
        refine ⟨x2, l2, s2, ?_, ?_, g3⟩
        · show f_Decrees_latestOf_7_b _ _ _ _ (f_Decrees_latestOf_7 P7 w d day f1) _ _ = _
          rw [cb, if_pos hb, if_pos (by decide), g1]
        · show f_Ref_means_76_b _ _ _ _ _ (f_Ref_means_76 PR w d day K f2) _ _ _ = _
          rw [rb, if_pos hb, if_neg (fun z => by have := Int32.lt_iff_toInt_lt.mp z; have := eo.2.2.2.1; simp at *; omega), g2]
      · by_cases hl : P7 5 k < P7 5 i
        · obtain ⟨x2, l2, s2, g1, g2, g3⟩ := ih (k + 1) f1 f2 (nI i) (P7 3 i) (P7 5 i) (by omega) (by omega) (by omega) (Or.inr ⟨i, by omega, rfl, rfl, rfl⟩)
          refine ⟨x2, l2, s2, ?_, ?_, g3⟩
          · show f_Decrees_latestOf_7_b _ _ _ _ (f_Decrees_latestOf_7 P7 w d day f1) _ _ = _
            rw [cb, if_pos hb, if_neg (nI_pos (by omega)), chkN (by omega) (by decide), nI_clamp (by omega), if_pos hl, g1]
          · show f_Ref_means_76_b _ _ _ _ _ (f_Ref_means_76 PR w d day K f2) _ _ _ = _
            rw [rb, if_pos hb, if_pos hl, g2]
        · obtain ⟨x2, l2, s2, g1, g2, g3⟩ := ih (k + 1) f1 f2 (nI k) (P7 3 k) (P7 5 k) (by omega) (by omega) (by omega) (Or.inr ⟨k, by omega, rfl, rfl, rfl⟩)
          refine ⟨x2, l2, s2, ?_, ?_, g3⟩
          · show f_Decrees_latestOf_7_b _ _ _ _ (f_Decrees_latestOf_7 P7 w d day f1) _ _ = _
            rw [cb, if_pos hb, if_neg (nI_pos (by omega)), chkN (by omega) (by decide), nI_clamp (by omega), if_neg hl, g1]
          · show f_Ref_means_76_b _ _ _ _ _ (f_Ref_means_76 PR w d day K f2) _ _ _ = _
            rw [rb, if_pos hb, if_neg hl, g2]
    · obtain ⟨x2, l2, s2, g1, g2, g3⟩ := ih (k + 1) f1 f2 x l s (by omega) (by omega) (by omega) (ltI_up hi)
      refine ⟨x2, l2, s2, ?_, ?_, g3⟩
      · show f_Decrees_latestOf_7_b _ _ _ _ (f_Decrees_latestOf_7 P7 w d day f1) _ _ = _
        rw [cb, if_neg hb, g1]
      · show f_Ref_means_76_b _ _ _ _ _ (f_Ref_means_76 PR w d day K f2) _ _ _ = _
        rw [rb, if_neg hb, g2]
/-- once it isn't sure it stays so -/
theorem su0 {PR : PI} (d day set lat : Int32) (K : Int32 → Option Int32) : ∀ (r u f : Nat), u + r = 16 → r < f → f_Ref_means_219 PR d day set lat K f 0 (nI u) = K 0 := by
  intro r
  induction r with
  | zero =>
    intro u f e hf
    obtain ⟨f, rfl⟩ : ∃ m, f = m + 1 := ⟨f - 1, by omega⟩
    have eu : u = 16 := by omega
    subst eu
    show f_Ref_means_219_b _ _ _ _ _ _ _ _ _ = _
    unfold f_Ref_means_219_b
    rw [if_pos (by decide)]
  | succ r ih =>
    intro u f e hf
    obtain ⟨f, rfl⟩ : ∃ m, f = m + 1 := ⟨f - 1, by omega⟩
    show f_Ref_means_219_b _ _ _ _ _ _ (f_Ref_means_219 PR d day set lat K f) _ _ = _
    unfold f_Ref_means_219_b
    rw [if_neg (nge (y := 16) (b := 16) (by omega) (by decide) rfl)]
    simp only [letsN, jnsN, nI_1, if_true, ih (u + 1) f (by omega) (by omega)]
theorem su_l {c t : Nat} {P7 PR : PI} (h : rDecN c P7 PR) (ht : t < 16) (d day set : Int32) : ∀ (r u f1 f2 : Nat), u + r = 16 → r < f1 → r < f2 → ∃ v, f_Decrees_surely_45 P7 d day (nI t) (set &&& (((1 : Int32) <<< (nI t &&& 31)) ^^^ (-1))) f1 (nI u) = some v ∧ f_Ref_means_219 PR d day set (nI t) (fun (x8_18 : Int32) => (if x8_18 = 0 then some (-4 : Int32) else some (nI t))) f2 1 (nI u) = some v := by
  intro r
  induction r with
  | zero =>
    intro u f1 f2 e hf1 hf2
    obtain ⟨f1, rfl⟩ : ∃ m, f1 = m + 1 := ⟨f1 - 1, by omega⟩
    obtain ⟨f2, rfl⟩ : ∃ m, f2 = m + 1 := ⟨f2 - 1, by omega⟩
    have eu : u = 16 := by omega
    subst eu
    refine ⟨nI t, ?_, ?_⟩
    · show f_Decrees_surely_45_b _ _ _ _ _ _ _ = _
      unfold f_Decrees_surely_45_b
      rw [if_pos (by decide)]
    · show f_Ref_means_219_b _ _ _ _ _ _ _ _ _ = _
      unfold f_Ref_means_219_b
      rw [if_pos (by decide)]
      show (if (1 : Int32) = 0 then _ else _) = _
      rw [if_neg (by decide)]
  | succ r ih =>
    intro u f1 f2 e hf1 hf2
    obtain ⟨f1, rfl⟩ : ∃ m, f1 = m + 1 := ⟨f1 - 1, by omega⟩
    obtain ⟨f2, rfl⟩ : ∃ m, f2 = m + 1 := ⟨f2 - 1, by omega⟩
    obtain ⟨v, i1, i2⟩ := ih (u + 1) f1 f2 (by omega) (by omega) (by omega)
    obtain ⟨b, l1, l2⟩ := lets_ok h (nI u) d day
    have bo := bothers (t := t) (u := u) (by omega) (by omega) set
    have cb : f_Decrees_surely_45 P7 d day (nI t) (set &&& (((1 : Int32) <<< (nI t &&& 31)) ^^^ (-1))) (f1 + 1) (nI u) = if ((set >>> (nI u &&& 31)) &&& 1) = 0 ∨ u = t then some v else if b = true then some (-4) else some v := by
      show f_Decrees_surely_45_b _ _ _ _ _ (f_Decrees_surely_45 P7 d day (nI t) (set &&& (((1 : Int32) <<< (nI t &&& 31)) ^^^ (-1))) f1) _ = _
      unfold f_Decrees_surely_45_b
      rw [if_neg (nge (y := 16) (b := 16) (by omega) (by decide) rfl), l1, bd1s, ifz, letsN, nI_1, i1]
      by_cases q : ((set >>> (nI u &&& 31)) &&& 1) = 0 ∨ u = t
      · rw [if_pos q, if_pos (bo.mpr q)]
      · rw [if_neg q, if_neg (fun z => q (bo.mp z))]
    have rb : f_Ref_means_219 PR d day set (nI t) (fun (x8_18 : Int32) => (if x8_18 = 0 then some (-4 : Int32) else some (nI t))) (f2 + 1) 1 (nI u) = if ((set >>> (nI u &&& 31)) &&& 1) = 0 ∨ u = t then some v else if b = true then some (-4) else some v := by
      show f_Ref_means_219_b _ _ _ _ _ _ (f_Ref_means_219 PR d day set (nI t) (fun (x8_18 : Int32) => (if x8_18 = 0 then some (-4 : Int32) else some (nI t))) f2) _ _ = _
      unfold f_Ref_means_219_b
      rw [if_neg (nge (y := 16) (b := 16) (by omega) (by decide) rfl), l2]
      simp only [letsN, jnsN, nI_1, bd1s, ifz, if_neg (show ¬ (1 : Int32) = 0 by decide), i2, su0 d day set (nI t) _ r (u + 1) f2 (by omega) (by omega), if_true]
      by_cases q1 : ((set >>> (nI u &&& 31)) &&& 1) = 0
      · rw [if_pos q1, if_pos (Or.inl q1)]
      · rw [if_neg q1]
        by_cases q2 : u = t
        · rw [if_pos (Or.inr q2), if_pos (by rw [q2])]
        · rw [if_neg (show ¬ (((set >>> (nI u &&& 31)) &&& 1) = 0 ∨ u = t) from fun z => z.elim q1 q2), if_neg (show ¬ nI u = nI t from fun z => q2 ((nI_eq (by omega) (by omega)).mp z))]
    by_cases q : ((set >>> (nI u &&& 31)) &&& 1) = 0 ∨ u = t
    · rw [if_pos q] at cb rb
      exact ⟨v, cb, rb⟩
    · rw [if_neg q] at cb rb
      by_cases hb : b = true
      · rw [if_pos hb] at cb rb
        exact ⟨-4, cb, rb⟩
      · rw [if_neg hb] at cb rb
        exact ⟨v, cb, rb⟩
