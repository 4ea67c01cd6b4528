/-! a whole script -/
theorem ra60_b {k i : Nat} (hk : k + 5 < 600) (hi : i < 4) (K : PI → Option (Int32 × PI)) (S : Int32 → PI → Option (Int32 × PI)) (P : PI) : f_Ref_readAll_60_b (nI k) K S (nI i) P = S (nI (i + 1)) (mb_u2 P 15 (k + 1 + i) (P 34 i)) := by
  unfold f_Ref_readAll_60_b
  rw [if_neg (nge (b := 4) (y := 4) (by omega) (by decide) rfl), chkN hi (by decide), nI_1, nI_add, chkN (show k + 1 + i < 600 by omega) (by decide), letsN, letsN, nI_clamp (by omega), nI_clamp (by omega), nI_1]
theorem ra60 {k n : Nat} (hk : k + 5 < 600) (hn : 5 ≤ n) (K : PI → Option (Int32 × PI)) (P : PI) (a : Int32) : f_Ref_readAll_60 (nI k) K n 0 (mb_u2 P 15 k a) = K (put5 P 15 k a (P 34 0) (P 34 1) (P 34 2) (P 34 3)) := by
  obtain ⟨n, rfl⟩ : ∃ m, n = m + 5 := ⟨n - 5, by omega⟩
  show f_Ref_readAll_60_b (nI k) K (f_Ref_readAll_60 (nI k) K (n + 4)) (nI 0) _ = _
  rw [ra60_b hk (by decide)]
  show f_Ref_readAll_60_b (nI k) K (f_Ref_readAll_60 (nI k) K (n + 3)) (nI 1) _ = _
  rw [ra60_b hk (by decide)]
  show f_Ref_readAll_60_b (nI k) K (f_Ref_readAll_60 (nI k) K (n + 2)) (nI 2) _ = _
  rw [ra60_b hk (by decide)]
  show f_Ref_readAll_60_b (nI k) K (f_Ref_readAll_60 (nI k) K (n + 1)) (nI 3) _ = _
  rw [ra60_b hk (by decide)]
  show f_Ref_readAll_60_b (nI k) K (f_Ref_readAll_60 (nI k) K n) (nI 4) _ = _
  unfold f_Ref_readAll_60_b
  rw [if_pos (by decide)]
  simp only [u2_ap, show ¬ ((34 : Nat) = 15) by decide, false_and, if_false]
  rfl
theorem k20 {α : Type} (x : Option α) : mb_chk (0 : Int32) 2 x = x := chkN (k := 0) (by decide) (by decide) x
theorem k21 {α : Type} (x : Option α) : mb_chk (1 : Int32) 2 x = x := chkN (k := 1) (by decide) (by decide) x
/-- the reference behind an item -/
def nxt (V : PI) (c : Nat) (l : Int32) : PI := mb_u2 (put5 V 15 (5 * c) l (V 34 0) (V 34 1) (V 34 2) (V 34 3)) 14 0 (nI (c + 1))
theorem ra_bad {len p : Nat} (hl : len ≤ 300) (pl : p < len) {PR V : PI} (h11 : PR 0 11 = nI len) (hp : PR 0 32 = nI p) (h : f_Ref_item PR = some (0, V)) (S : PI → Option (Int32 × PI)) : f_Ref_readAll_12_b S PR = some (nI p, V) := by
  unfold f_Ref_readAll_12_b
  rw [h11, hp, if_neg (nI_ge pl (by omega)), letsN, h, bd2s, if_pos rfl]
theorem ra_ok {T : Nat → Int32} {len p c : Nat} (hl : len ≤ 300) (pl : p < len) (hc : c ≤ 32) {PR V : PI} (h11 : PR 0 11 = nI len) (hp : PR 0 32 = nI p) (h : f_Ref_item PR = some (1, V)) (hV : txR T len V) (h14 : V 14 0 = nI c) (S : PI → Option (Int32 × PI)) : f_Ref_readAll_12_b S PR = S (nxt V c (T p)) := by
  unfold f_Ref_readAll_12_b
  rw [h11, hp, if_neg (nI_ge pl (by omega)), letsN, h, bd2s, if_neg (by decide), k20, letsN]
  rw [show (0 : Int32).toNatClampNeg = 0 from by decide, h14, ixm 5 c (x := 5) rfl, chkN (show p < 300 by omega) (by decide), chkN (show 5 * c < 600 by omega) (by decide), letsN, letsN, jnsN, nI_clamp (by omega), nI_clamp (by omega), hV.2 p (by omega), ra60 (by omega) (by have := fu_lt (k := 5) (by decide); omega), k20, k20, letsN]
  rw [put5_o V 15 (5 * c) _ _ _ _ _ (q := 14) (j := 0) (Or.inl (by decide)), h14, nI_1]
  rfl
def fr (PR V : PI) : Prop := eqx [14, 15, 34] [32] PR V ∧ V 14 1 = PR 14 1 ∧ ∀ j, 300 ≤ j → V 15 j = PR 15 j
theorem fr_rf (P : PI) : fr P P := ⟨eqx_rf _ _ _, rfl, fun _ _ => rfl⟩
theorem fr_tr {P V W : PI} (h : fr P V) (h2 : fr V W) : fr P W := ⟨eqx_tr h.1 h2.1, h2.2.1.trans h.2.1, fun j hj => (h2.2.2 j hj).trans (h.2.2 j hj)⟩
theorem fr_it {P V : PI} (h : eqx [34] [32] P V) : fr P V := ⟨eqx_mono h (fun q z => by simp at z; subst z; decide) (fun _ z => z), by rw [h.1 14 (by decide) (by decide)], fun j _ => by rw [h.1 15 (by decide) (by decide)]⟩
theorem fr_nx {V : PI} {c : Nat} (hc : c ≤ 32) (l : Int32) : fr V (nxt V c l) := by
  refine ⟨eqx_u2 (eqx_put5 (eqx_rf _ _ _) (by decide) (by decide) _ _ _ _ _ _) (by decide) (by decide) _ _, ?_, fun j hj => ?_⟩
  · unfold nxt
    rw [u2_ap, if_neg (by omega), put5_o V 15 (5 * c) _ _ _ _ _ (q := 14) (j := 1) (Or.inl (by decide))]
  · unfold nxt
    rw [u2_ap, if_neg (by omega), put5_o V 15 (5 * c) _ _ _ _ _ (j := j) (Or.inr (by omega))]
theorem txR_fr {T : Nat → Int32} {len : Nat} {P V : PI} (h : txR T len P) (k : fr P V) : txR T len V := ⟨by rw [k.1.2 11 (by decide)]; exact h.1, fun j hj => by rw [k.1.1 13 (by decide) (by decide)]; exact h.2 j hj⟩
theorem txC_eq {T : Nat → Int32} {len : Nat} {P V : PI} (h : txC T len P) (k : eqx [2] [2] P V) : txC T len V := ⟨by rw [k.2 3 (by decide)]; exact h.1, fun j hj => by rw [k.1 1 (by decide) (by decide)]; exact h.2 j hj⟩
theorem nxt32 (V : PI) (c : Nat) (l : Int32) : nxt V c l 0 32 = V 0 32 := by
  unfold nxt
  rw [u2_ap, if_neg (by omega), put5_o V 15 (5 * c) _ _ _ _ _ (q := 0) (j := 32) (Or.inl (by decide))]
theorem nxt14 (V : PI) (c : Nat) (l : Int32) : nxt V c l 14 0 = nI (c + 1) := by
  unfold nxt
  rw [u2_ap, if_pos ⟨rfl, rfl⟩]
set_option maxHeartbeats 1000000 in
theorem ff_l {T : Nat → Int32} {len : Nat} (hl : len ≤ 300) : ∀ (r p c n m : Nat) (P PR : PI), len ≤ p + r → p ≤ len → 9 * c ≤ p → r < n → r < m → txC T len P → txR T len PR → PR 0 32 = nI p → PR 14 0 = nI c → ∃ (x : Int32) (U V : PI), f_Script_firstFault_4 n (nI p) (nI c) P = some (x, U) ∧ f_Ref_readAll_12 m PR = some (x, V) ∧ eqx [2] [2] P U ∧ fr PR V := by
  intro r
  induction r with
  | zero =>
    intro p c n m P PR e pl h9 hn hm hC hR hp hc
    obtain ⟨n, rfl⟩ : ∃ m, n = m + 1 := ⟨n - 1, by omega⟩
    obtain ⟨m, rfl⟩ : ∃ z, m = z + 1 := ⟨m - 1, by omega⟩
    refine ⟨-4, P, PR, ?_, ?_, eqx_rf _ _ _, fr_rf _⟩
    · show f_Script_firstFault_4_b _ _ _ _ = _
      unfold f_Script_firstFault_4_b
      rw [if_neg (nge (b := 300) (y := 300) (by omega) (by decide) rfl), hC.1, if_pos (nI_le (by omega) (by omega))]
    · show f_Ref_readAll_12_b _ _ = _
      unfold f_Ref_readAll_12_b
      rw [hR.1, hp, if_pos (nI_le (by omega) (by omega))]
  | succ r ih =>
    intro p c n m P PR e pl h9 hn hm hC hR hp hc
    by_cases q : p < len
    · obtain ⟨n, rfl⟩ : ∃ m, n = m + 1 := ⟨n - 1, by omega⟩
      obtain ⟨m, rfl⟩ : ∃ z, m = z + 1 := ⟨m - 1, by omega⟩
      obtain ⟨P', V, k1, k2, k3⟩ := item_c hl hC hR hp q
      have cl : ∀ x : Int32, f_Script_readItem P (nI p) = some (x, P') → f_Script_firstFault_4_b (f_Script_firstFault_4 n) (nI p) (nI c) P = (if x = -1 then some (nI p, P') else f_Script_firstFault_4 n x (nI (c + 1)) P') := by
        intro x hx
        unfold f_Script_firstFault_4_b
        rw [if_neg (nge (b := 300) (y := 300) (by omega) (by decide) rfl), hC.1, if_neg (nI_ge q (by omega)), hx, bd2s, letsN, letsN, letsN, nI_1]
      rcases k3 with ⟨a, b⟩ | ⟨z, z0, zl, a, b, d, f, g, ok⟩
      · refine ⟨nI p, P', V, ?_, ?_, k1, fr_it k2⟩
        · show f_Script_firstFault_4_b (f_Script_firstFault_4 n) (nI p) (nI c) P = _
          rw [cl _ a, if_pos rfl]
        · show f_Ref_readAll_12_b (f_Ref_readAll_12 m) PR = _
          exact ra_bad hl q hR.1 hp b _
      · have c32 : c ≤ 32 := by omega
        have hV := txR_fr hR (fr_it k2)
        have h14 : V 14 0 = nI c := by rw [k2.1 14 (by decide) (by decide)]; exact hc
        have zz : ¬ nI z = -1 := fun y => by
          have := congrArg Int32.toInt y
          rw [nI_toInt (by omega)] at this
          have : ((z : Nat) : Int) = -1 := this
          omega
        obtain ⟨x, U, W, l1, l2, l3, l4⟩ := ih z (c + 1) n m P' (nxt V c (T p)) (by omega) zl (by omega) (by omega) (by omega) (txC_eq hC k1) (txR_fr hV (fr_nx c32 _)) ((nxt32 _ _ _).trans d) (nxt14 _ _ _)
        refine ⟨x, U, W, ?_, ?_, eqx_tr k1 l3, fr_tr (fr_it k2) (fr_tr (fr_nx c32 _) l4)⟩
        · show f_Script_firstFault_4_b (f_Script_firstFault_4 n) (nI p) (nI c) P = _
          rw [cl _ a, if_neg zz]; exact l1
        · show f_Ref_readAll_12_b (f_Ref_readAll_12 m) PR = _
          rw [ra_ok hl q c32 hR.1 hp b hV h14]; exact l2
    · exact ih p c n m P PR (by omega) pl h9 (by omega) (by omega) hC hR hp hc
def itOk (c : Nat) (P7 V : PI) : Prop := ∀ j, j < c → P7 1 j = V 15 (5 * j) ∧ P7 2 j = V 15 (5 * j + 1) ∧ P7 3 j = V 15 (5 * j + 2) ∧ P7 4 j = V 15 (5 * j + 3) ∧ P7 5 j = V 15 (5 * j + 4) ∧ iOk (P7 1 j) (P7 2 j) (P7 3 j) (P7 4 j) (P7 5 j)
theorem tk_end {len p c n : Nat} (hl : len ≤ 300) (hp : p = len) {P7 P6 : PI} (h : P6 0 3 = nI len) : f_Decrees_take_9 (n + 1) (nI p) (nI c) P7 P6 = some (P7 0 5, P7, P6) := by
  show f_Decrees_take_9_b _ _ _ _ _ = _
  unfold f_Decrees_take_9_b
  rw [h, if_neg (nI_pos (by omega)), if_pos (nI_le (by omega) (by omega))]
  split <;> rfl
set_option maxHeartbeats 2000000 in
theorem tk_l {T : Nat → Int32} {len : Nat} (hl : len ≤ 300) : ∀ (r p c n m : Nat) (P7 P6 PR V : PI), len ≤ p + r → p ≤ len → 9 * c ≤ p → r < n → txC T len P6 → txR T len PR → PR 0 32 = nI p → PR 14 0 = nI c → P7 0 5 = nI c → itOk c P7 PR → f_Ref_readAll_12 m PR = some (-4, V) → ∃ (d : Nat) (U7 U6 : PI), f_Decrees_take_9 n (nI p) (nI c) P7 P6 = some (nI d, U7, U6) ∧ d ≤ 33 ∧ V 14 0 = nI d ∧ U7 0 5 = nI d ∧ itOk d U7 V ∧ eqx [2] [2] P6 U6 := by
  intro r
  induction r with
  | zero =>
    intro p c n m P7 P6 PR V e pl h9 hn hC hR hp hc h5 hi hV
    obtain ⟨n, rfl⟩ : ∃ m, n = m + 1 := ⟨n - 1, by omega⟩
    have ev : V = PR := by
      cases m with
      | zero => exact absurd hV (by intro z; cases z)
      | succ m =>
        have hV' : f_Ref_readAll_12_b (f_Ref_readAll_12 m) PR = some (-4, V) := hV
        unfold f_Ref_readAll_12_b at hV'
        rw [hR.1, hp, if_pos (nI_le (by omega) (by omega))] at hV'
        simp only [Option.some.injEq, Prod.mk.injEq] at hV'
        exact hV'.2.symm
    refine ⟨c, P7, P6, ?_, by omega, by rw [ev]; exact hc, h5, by rw [ev]; exact hi, eqx_rf _ _ _⟩
    rw [tk_end hl (by omega) hC.1, h5]
  | succ r ih =>
    intro p c n m P7 P6 PR V e pl h9 hn hC hR hp hc h5 hi hV
    by_cases q : p < len
    · obtain ⟨n, rfl⟩ : ∃ m, n = m + 1 := ⟨n - 1, by omega⟩
      cases m with
      | zero => exact absurd hV (by intro z; cases z)
      | succ m =>
        have hV' : f_Ref_readAll_12_b (f_Ref_readAll_12 m) PR = some (-4, V) := hV
        obtain ⟨P', W, k1, k2, k3⟩ := item_c hl hC hR hp q
        rcases k3 with ⟨a, b⟩ | ⟨z, z0, zl, a, b, d, f, g, ok⟩
        · rw [ra_bad hl q hR.1 hp b] at hV'
          simp only [Option.some.injEq, Prod.mk.injEq] at hV'
          have := congrArg Int32.toInt hV'.1
          rw [nI_toInt (by omega)] at this
          have : (p : Int) = -4 := this
          omega
        · have c32 : c ≤ 32 := by omega
          have hW := txR_fr hR (fr_it k2)
          have h14 : W 14 0 = nI c := by rw [k2.1 14 (by decide) (by decide)]; exact hc
          rw [ra_ok hl q c32 hR.1 hp b hW h14] at hV'
          have cl : f_Decrees_take_9_b (f_Decrees_take_9 n) (nI p) (nI c) P7 P6 = f_Decrees_take_9 n (nI z) (nI (c + 1)) (mb_uo (row5 P7 c (T p) (P' 2 0) (P' 2 1) (P' 2 2) (P' 2 3)) 5 (nI (c + 1))) P' := by
            unfold f_Decrees_take_9_b
            have e5 : ∀ a b d e g : Int32, (mb_u2 (mb_u2 (mb_u2 (mb_u2 (mb_u2 P7 1 c a) 2 c b) 3 c d) 4 c e) 5 c g) 0 5 = nI c := fun a b d e g => by
              rw [u2_ap, if_neg (by omega), u2_ap, if_neg (by omega), u2_ap, if_neg (by omega), u2_ap, if_neg (by omega), u2_ap, if_neg (by omega)]; exact h5
            rw [if_neg (nge (b := 33) (y := 33) (by omega) (by decide) rfl), if_neg (nI_pos (by omega)), hC.1, if_neg (nI_ge q (by omega)), a, bd2s]
            simp only [letsN, k40, k41, k42, k43, q40, q41, q42, q43, chkN (show c < 33 by omega) (by decide), nI_clamp (show c < 2 ^ 31 by omega), f, e5, nI_1]
            rfl
          obtain ⟨dd, U7, U6, l1, l2, l3, l4, l5, l6⟩ := ih z (c + 1) n m (mb_uo (row5 P7 c (T p) (P' 2 0) (P' 2 1) (P' 2 2) (P' 2 3)) 5 (nI (c + 1))) P' (nxt W c (T p)) V (by omega) zl (by omega) (by omega) (txC_eq hC k1) (txR_fr hW (fr_nx c32 _)) ((nxt32 _ _ _).trans d) (nxt14 _ _ _) (by rw [uo_ap, if_pos ⟨rfl, rfl⟩]) (by
            intro j hj
            simp only [uo_ap, false_and, if_false, show ¬ ((1 : Nat) = 0) by decide, show ¬ ((2 : Nat) = 0) by decide, show ¬ ((3 : Nat) = 0) by decide, show ¬ ((4 : Nat) = 0) by decide, show ¬ ((5 : Nat) = 0) by decide]
            unfold nxt
            simp only [u2_ap, show ¬ ((15 : Nat) = 14) by decide, false_and, if_false]
            by_cases ej : j = c
            · subst ej
              rw [row5_1, row5_2, row5_3, row5_4, row5_5, put5_0, put5_1, put5_2, put5_3, put5_4, g 0 (by decide), g 1 (by decide), g 2 (by decide), g 3 (by decide)]
              refine ⟨rfl, rfl, rfl, rfl, rfl, ?_⟩
              rw [← g 0 (by decide), ← g 1 (by decide), ← g 2 (by decide), ← g 3 (by decide)]
              exact ok
            · have hh := hi j (by omega)
              have w15 : W 15 = PR 15 := k2.1 15 (by decide) (by decide)
              rw [row5_o P7 c _ _ _ _ _ (q := 1) (j := j) (Or.inr (Or.inl ej)), row5_o P7 c _ _ _ _ _ (q := 2) (j := j) (Or.inr (Or.inl ej)), row5_o P7 c _ _ _ _ _ (q := 3) (j := j) (Or.inr (Or.inl ej)), row5_o P7 c _ _ _ _ _ (q := 4) (j := j) (Or.inr (Or.inl ej)), row5_o P7 c _ _ _ _ _ (q := 5) (j := j) (Or.inr (Or.inl ej)), put5_o W 15 (5 * c) _ _ _ _ _ (j := 5 * j) (Or.inr (by omega)), put5_o W 15 (5 * c) _ _ _ _ _ (j := 5 * j + 1) (Or.inr (by omega)), put5_o W 15 (5 * c) _ _ _ _ _ (j := 5 * j + 2) (Or.inr (by omega)), put5_o W 15 (5 * c) _ _ _ _ _ (j := 5 * j + 3) (Or.inr (by omega)), put5_o W 15 (5 * c) _ _ _ _ _ (j := 5 * j + 4) (Or.inr (by omega)), w15]
              exact hh) hV'
          refine ⟨dd, U7, U6, ?_, l2, l3, l4, l5, eqx_tr k1 l6⟩
          show f_Decrees_take_9_b (f_Decrees_take_9 n) (nI p) (nI c) P7 P6 = _
          rw [cl]; exact l1
    · exact ih p c n m P7 P6 PR V (by omega) pl h9 (by omega) hC hR hp hc h5 hi hV
