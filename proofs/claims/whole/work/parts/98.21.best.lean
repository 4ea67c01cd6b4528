/-! best -/
theorem SR_up {m c : Nat} (hc : cand m c) : (∀ m' c', SR m c m' c' → SR m (c + 1) m' c') ∧ (∀ m' c', SR m (c + 1) m' c' → SR m c m' c' ∨ (m' = m ∧ c' = c)) ∧ SR m (c + 1) m c := by
  refine ⟨fun m' c' h => ⟨h.1, ?_⟩, fun m' c' h => ?_, hc, Or.inr ⟨rfl, by omega⟩⟩
  · rcases h.2 with a | a
    · exact Or.inl a
    · exact Or.inr ⟨a.1, by omega⟩
  · rcases h.2 with a | a
    · exact Or.inl ⟨h.1, Or.inl a⟩
    · by_cases e : c' = c
      · exact Or.inr ⟨a.1, e⟩
      · exact Or.inl ⟨h.1, Or.inr ⟨a.1, by omega⟩⟩
theorem opt_up {W : Nat → Nat → Option Int64} {m c : Nat} (hc : cand m c) {b : Option (Nat × Nat × Int64)} (h : opt W (SR m c) b) : opt W (SR m (c + 1)) (updO (W m c) b m c) := by
  obtain ⟨u1, u2, u3⟩ := SR_up hc
  cases e : W m c with
  | none =>
    refine opt_skip u1 (fun m' c' hs => ?_) h
    rcases u2 m' c' hs with a | ⟨rfl, rfl⟩
    · exact Or.inl a
    · exact Or.inr e
  | some v =>
    refine opt_add e u1 u2 u3 (fun c' hs => ?_) h
    rcases hs.2 with a | a <;> omega
theorem lb_l {n m N : Nat} {P2 : PI} (hn : n ≤ 16) (hcd : ∀ c, c < N → cand m c) (hN : N < 1000000) (K : PI → PL → Option (PI × PL)) : ∀ (r c f : Nat) (PR : PI) (LR : PL) (b : Option (Nat × Nat × Int64)), c + r = N → r < f → PR 0 0 = nI n → rTables n P2 PR → bRf PR LR b → opt (Wv P2) (SR m c) b → ∃ (V : PI) (W : PL) (b' : Option (Nat × Nat × Int64)), f_Ref_layBest_46 (nI m) (nI N) K f (nI c) PR LR = K V W ∧ eqx [27, 28] [28] PR V ∧ eqL [] [29] LR W ∧ bRf V W b' ∧ opt (Wv P2) (SR m N) b' := by
  intro r
  induction r with
  | zero =>
    intro c f PR LR b e hf h0 hT hb ho
    obtain ⟨f, rfl⟩ : ∃ m, f = m + 1 := ⟨f - 1, by omega⟩
    have ec : c = N := by omega
    subst ec
    refine ⟨PR, LR, b, ?_, eqx_rf _ _ _, eqL_rf _ _ _, hb, ho⟩
    show f_Ref_layBest_46_b _ _ _ _ _ _ _ = _
    unfold f_Ref_layBest_46_b
    rw [if_pos (nI_le (Nat.le_refl _) (by omega))]
  | succ r ih =>
    intro c f PR LR b e hf h0 hT hb ho
    obtain ⟨f, rfl⟩ : ∃ m, f = m + 1 := ⟨f - 1, by omega⟩
    have hc := hcd c (by omega)
    have hm : ∀ m0 c0 v0, b = some (m0, c0, v0) → m0 ≤ m := by
      intro m0 c0 v0 eb
      rw [eb] at ho
      rcases ho.1.2 with a | a <;> omega
    obtain ⟨V, W, k1, k2, k3, k4⟩ := lb_b hn h0 hT hc (N := N) ⟨by omega, by omega⟩ hb hm K (f_Ref_layBest_46 (nI m) (nI N) K f)
    obtain ⟨V', W', b', l1, l2, l3, l4, l5⟩ := ih (c + 1) f V W _ (by omega) (by omega) (by rw [k2.2 0 (by simp)]; exact h0) (rT_cong hT (k2.1 5 (by simp) (by decide))) k4 (opt_up hc ho)
    refine ⟨V', W', b', ?_, eqx_tr k2 l2, eqL_tr k3 l3, l4, l5⟩
    show f_Ref_layBest_46_b _ _ _ _ _ _ _ = _
    rw [k1]
    exact l1
def mN (m : Nat) : Nat := if m = 2 then 256 else if m = 3 then 4096 else 65536
theorem mN_cand {m : Nat} (h : m = 2 ∨ m = 3 ∨ m = 4) : ∀ c, c < mN m → cand m c := by
  intro c hc
  rcases h with rfl | rfl | rfl
  · exact Or.inl ⟨rfl, hc⟩
  · exact Or.inr (Or.inl ⟨rfl, hc⟩)
  · exact Or.inr (Or.inr ⟨rfl, hc⟩)
theorem SR_next {W : Nat → Nat → Option Int64} {m : Nat} (h : m = 2 ∨ m = 3 ∨ m = 4) {b : Option (Nat × Nat × Int64)} (ho : opt W (SR m (mN m)) b) : opt W (SR (m + 1) 0) b := by
  refine opt_skip (fun m' c' hs => ⟨hs.1, ?_⟩) (fun m' c' hs => Or.inl ⟨hs.1, ?_⟩) ho
  · rcases hs.2 with a | a <;> omega
  · rcases hs.2 with a | a
    · by_cases e : m' = m
      · refine Or.inr ⟨e, ?_⟩
        subst e
        rcases hs.1 with ⟨rfl, q⟩ | ⟨rfl, q⟩ | ⟨rfl, q⟩
        · exact q
        · exact q
        · exact q
      · exact Or.inl (by omega)
    · omega
theorem lb_o {n : Nat} {P2 : PI} (hn : n ≤ 16) : ∀ (r m f : Nat) (PR : PI) (LR : PL) (b : Option (Nat × Nat × Int64)), m + r = 5 → 2 ≤ m → r < f → PR 0 0 = nI n → rTables n P2 PR → bRf PR LR b → opt (Wv P2) (SR m 0) b → ∃ (V : PI) (W : PL) (b' : Option (Nat × Nat × Int64)), f_Ref_layBest_14 f (nI m) PR LR = some (V, W) ∧ eqx [27, 28] [28] PR V ∧ eqL [] [29] LR W ∧ bRf V W b' ∧ opt (Wv P2) (SR 5 0) b' := by
  intro r
  induction r with
  | zero =>
    intro m f PR LR b e _ hf h0 hT hb ho
    obtain ⟨f, rfl⟩ : ∃ m, f = m + 1 := ⟨f - 1, by omega⟩
    have ec : m = 5 := by omega
    subst ec
    refine ⟨PR, LR, b, ?_, eqx_rf _ _ _, eqL_rf _ _ _, hb, ho⟩
    show f_Ref_layBest_14_b _ _ _ _ = _
    unfold f_Ref_layBest_14_b
    rw [if_pos (by decide)]
  | succ r ih =>
    intro m f PR LR b e h2 hf h0 hT hb ho
    obtain ⟨f, rfl⟩ : ∃ m, f = m + 1 := ⟨f - 1, by omega⟩
    have m4 : m = 2 ∨ m = 3 ∨ m = 4 := by omega
    obtain ⟨V, W, b1, k1, k2, k3, k4, k5⟩ := lb_l (m := m) (N := mN m) hn (mN_cand m4) (by rcases m4 with rfl | rfl | rfl <;> decide) (fun (P0_15 : PI) (L0_16 : PL) => mb_let (nI m + (1 : Int32)) (fun (x1_19 : Int32) => f_Ref_layBest_14 f x1_19 P0_15 L0_16)) (mN m) 0 mb_fu PR LR b (by omega) (fu_lt (by rcases m4 with rfl | rfl | rfl <;> decide)) h0 hT hb ho
    obtain ⟨V', W', b', l1, l2, l3, l4, l5⟩ := ih (m + 1) f V W b1 (by omega) (by omega) (by omega) (by rw [k2.2 0 (by simp)]; exact h0) (rT_cong hT (k2.1 5 (by simp) (by decide))) k4 (SR_next m4 k5)
    refine ⟨V', W', b', ?_, eqx_tr k2 l2, eqL_tr k3 l3, l4, l5⟩
    show f_Ref_layBest_14_b _ _ _ _ = _
    unfold f_Ref_layBest_14_b
    rw [nI_0, letsN, nI_1] at k1
    rw [if_neg (by rcases m4 with rfl | rfl | rfl <;> decide), jnsN, nI_1]
    rcases m4 with rfl | rfl | rfl
    · rw [if_pos (show nI 2 = 2 from rfl)]
      show mb_let _ _ = _
      rw [letsN, letsN, jnsN]
      exact k1.trans l1
    · rw [if_neg (show ¬ nI 3 = 2 by decide), if_pos (show nI 3 = 3 from rfl)]
      show mb_let _ _ = _
      rw [letsN, letsN, jnsN]
      exact k1.trans l1
    · rw [if_neg (show ¬ nI 4 = 2 by decide), if_neg (show ¬ nI 4 = 3 by decide)]
      show mb_let _ _ = _
      rw [letsN, letsN, jnsN]
      exact k1.trans l1
theorem lay_c {n : Nat} {P2 PR : PI} {LR : PL} (hn : n ≤ 16) (h0 : PR 0 0 = nI n) (hT : rTables n P2 PR) : ∃ (V : PI) (W : PL) (b : Option (Nat × Nat × Int64)), f_Ref_layBest PR LR = some (V, W) ∧ eqx [27, 28] [28] PR V ∧ eqL [] [29] LR W ∧ bRf V W b ∧ opt (Wv P2) cand b := by
  have q1 : eqx [27, 28] [28] PR (mb_uo PR 28 0) := eqx_uo (eqx_rf _ _ _) (by decide) _
  obtain ⟨V, W, b, k1, k2, k3, k4, k5⟩ := lb_o (P2 := P2) hn 3 2 mb_fu (mb_uo PR 28 0) (mb_uoL LR 29 (-4)) none (by omega) (by omega) (fu_lt (by omega)) (by rw [q1.2 0 (by simp)]; exact h0) (rT_cong hT (q1.1 5 (by simp) (by decide))) ⟨by rw [uo_ap, if_pos ⟨rfl, rfl⟩], by rw [uoL_ap, if_pos ⟨rfl, rfl⟩]⟩ (fun m c hs => by
    exfalso
    rcases hs.2 with a | a
    · rcases hs.1 with z | z | z <;> omega
    · omega)
  refine ⟨V, W, b, ?_, eqx_tr q1 k2, eqL_tr (eqL_uo (eqL_rf _ _ _) (by decide) _) k3, k4, opt_skip (fun m c hs => hs.1) (fun m c hs => Or.inl ⟨hs, Or.inl ?_⟩) k5⟩
  · unfold f_Ref_layBest
    rw [letsN, letsN, letsN]
    exact k1
  · rcases hs with z | z | z <;> omega
def rWays (P2 P3 : PI) (L3 : PL) : Prop := P3 0 4 = 0 ∨ (P3 0 4 = 1 ∧ ∃ b, bC P3 L3 b ∧ opt (Wv P2) cand b)
theorem find_k {n : Nat} {P2 PR : PI} (hT : rTables n P2 PR) {P : PI} {L : PL} (hw : rWays P2 P L) : ∃ (P' : PI) (L' : PL) (b : Option (Nat × Nat × Int64)), f_Ways_find P L P2 = some (P', L') ∧ P' 0 4 = 1 ∧ bC P' L' b ∧ opt (Wv P2) cand b := by
  rcases hw with a | ⟨a, b, k1, k2⟩
  · exact find_c hT a
  · refine ⟨P, L, b, ?_, a, k1, k2⟩
    unfold f_Ways_find
    rw [if_neg (by rw [a]; decide)]
theorem st_best {n : Nat} {P1 P2 P3 PR : PI} {L3 LR : PL} (h : rUnits n P1 PR) (hT : rTables n P2 PR) (hw : rWays P2 P3 L3) (x1 : Int32) : ∃ (r : Int64) (U V : PI) (UL W : PL), f_One_best P2 P3 L3 x1 = some (r, U, UL) ∧ f_Ref_best PR LR x1 = some (r, V, W) ∧ rWays P2 U UL ∧ eqx [27, 28] [28] PR V ∧ eqL [] [29] LR W := by
  unfold f_One_best f_Ref_best
  by_cases g : (-2 : Int32) ≤ x1
  · rw [if_pos g, if_pos g]
    obtain ⟨U, UL, b, a1, a2, a3, a4⟩ := find_k hT hw
    obtain ⟨V, W, b', c1, c2, c3, c4, c5⟩ := lay_c (LR := LR) h.1 h.2.2.1 hT
    have eb := opt_uni a4 c5
    subst eb
    rw [a1, c1, bd2s, bd2s]
    have rel : rWays P2 U UL := Or.inr ⟨a2, b, a3, a4⟩
    cases b with
    | none =>
      rw [if_pos (show U 0 2 = 0 from a3), if_pos c4.1]
      exact ⟨_, U, V, UL, W, rfl, rfl, rel, c2, c3⟩
    | some z =>
      obtain ⟨m, c, v⟩ := z
      have hm : m = 2 ∨ m = 3 ∨ m = 4 := by rcases a4.1 with z | z | z <;> omega
      have e1 : U 0 2 = nI m := a3.2.2.1
      have e2 : V 0 28 = nI m := c4.1
      have e3 : UL 0 1 = W 0 29 := a3.2.2.2.1.trans c4.2.1.symm
      have z0 : ¬ nI m = 0 := nI_ne0 (by omega) (by omega)
      rw [e1, e2, e3, if_neg z0, if_neg z0]
      by_cases y1 : x1 = -1
      · rw [if_pos y1, if_pos y1]
        exact ⟨_, U, V, UL, W, rfl, rfl, rel, c2, c3⟩
      rw [if_neg y1, if_neg y1]
      by_cases y2 : x1 = -2
      · rw [if_pos y2, if_pos y2]
        exact ⟨_, U, V, UL, W, rfl, rfl, rel, c2, c3⟩
      rw [if_neg y2, if_neg y2]
      by_cases y3 : nI m ≤ x1
      · rw [if_pos y3, if_pos y3]
        exact ⟨_, U, V, UL, W, rfl, rfl, rel, c2, c3⟩
      rw [if_neg y3, if_neg y3]
      have t1 : -2 ≤ x1.toInt := Int32.le_iff_toInt_le.mp g
      have t2 : ¬ (m : Int) ≤ x1.toInt := fun z => y3 (Int32.le_iff_toInt_le.mpr (by rw [nI_toInt (by omega)]; exact z))
      have t3 : ¬ x1.toInt = -1 := fun z => y1 (Int32.toInt_inj.mp (by rw [z]; decide))
      have t4 : ¬ x1.toInt = -2 := fun z => y2 (Int32.toInt_inj.mp (by rw [z]; decide))
      obtain ⟨i, hi⟩ : ∃ i : Nat, x1.toInt = (i : Int) := ⟨x1.toInt.toNat, by omega⟩
      have ex : x1 = nI i := Int32.toInt_inj.mp (by rw [nI_toInt (by omega)]; exact hi)
      have il : i < m := by omega
      rw [ex, chkN (by omega) (by decide), chkN (by omega) (by decide), nI_clamp (by omega), a3.2.2.2.2 i il, c4.2.2.2 i il]
      exact ⟨_, U, V, UL, W, rfl, rfl, rel, c2, c3⟩
  · rw [if_neg g, if_neg g]
    exact ⟨_, P3, PR, L3, LR, rfl, rfl, hw, eqx_rf _ _ _, eqL_rf _ _ _⟩
