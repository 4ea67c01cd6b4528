/-! rounds: the reference's choice -/
theorem pw_lt {k w : Nat} (hk : k = 1 ∨ k = 2) (hw : 1 ≤ w ∧ w ≤ 4) : sm k ^ w < 1000000 ∧ sm k ^ w = sm k ^ (w - 1) * sm k := by
  rcases hk with rfl | rfl <;> rcases (show w = 1 ∨ w = 2 ∨ w = 3 ∨ w = 4 by omega) with rfl | rfl | rfl | rfl <;> decide
theorem di_last {m w x : Nat} (hw : 1 ≤ w) : di m w x (w - 1) = x % m ∧ ∀ j, j + 1 < w → di m w x j = di m (w - 1) (x / m) j := by
  obtain ⟨n, rfl⟩ : ∃ n, w = n + 1 := ⟨w - 1, by omega⟩
  refine ⟨?_, fun j hj => ?_⟩
  · show (if n + 1 - 1 = n then x % m else _) = _
    rw [if_pos (by omega)]
  · show (if j = n then x % m else di m n (x / m) j) = _
    rw [if_neg (by omega)]
    rfl
set_option maxHeartbeats 1000000 in
theorem r83 {V : Nat → Int} {k w : Nat} (hk : k = 1 ∨ k = 2) (hw : 1 ≤ w ∧ w ≤ 4) (h0 : ∀ z, 0 ≤ V z) {P0 : PI} (hch : ∀ (P : PI) (c : Nat), eqx [38, 39, 40] [36] P0 P → c < 262144 → (∀ j, j < 4 → w ≤ j + 1 → tg c j = 0) → (∀ j, j < w → P 40 j = nI (tg c j)) → ∃ v : Int64, f_Ref_cheatedBy P (nI w) = some v ∧ v.toInt = V c) (K : Int64 → PI → Option (Int64 × PI)) : ∀ (r x f : Nat) (P : PI) (best : Int64) (b : Option Nat), x + r = sm k ^ w → r < f → eqx [38, 39, 40] [36] P0 P → P 0 36 = nI (sm k) → (∀ i, i < sm k → P 38 i = nI (ss k i)) → bRo V w P best b → op1 V (sn k w x) b → ∃ (best' : Int64) (P' : PI) (b' : Option Nat), f_Ref_rounds_83 (nI w) (nI (sm k ^ w)) K f best (nI x) P = K best' P' ∧ eqx [38, 39, 40] [36] P0 P' ∧ bRo V w P' best' b' ∧ op1 V (sn k w (sm k ^ w)) b' := by
  obtain ⟨pw1, pw2⟩ := pw_lt hk hw
  have sp := sm_pos k
  have s22 : sm k ≤ 22 := by unfold sm; split <;> decide
  intro r
  induction r with
  | zero =>
    intro x f P best b e hf hP h36 h38 hb hop
    obtain ⟨f, rfl⟩ : ∃ m, f = m + 1 := ⟨f - 1, by omega⟩
    have ex : x = sm k ^ w := by omega
    subst ex
    refine ⟨best, P, b, ?_, hP, hb, hop⟩
    show f_Ref_rounds_83_b _ _ _ _ _ _ _ = _
    unfold f_Ref_rounds_83_b
    rw [if_pos (nI_le (Nat.le_refl _) (by omega))]
  | succ r ih =>
    intro x f P best b e hf hP h36 h38 hb hop
    obtain ⟨f, rfl⟩ : ∃ m, f = m + 1 := ⟨f - 1, by omega⟩
    show ∃ (best' : Int64) (P' : PI) (b' : Option Nat), f_Ref_rounds_83_b (nI w) (nI (sm k ^ w)) K (f_Ref_rounds_83 (nI w) (nI (sm k ^ w)) K f) best (nI x) P = K best' P' ∧ _
    generalize hS : f_Ref_rounds_83 (nI w) (nI (sm k ^ w)) K f = S
    unfold f_Ref_rounds_83_b
    have xm : nI w - 1 = nI (w - 1) := pk_sub (a := w) (b := 1) hw.1
    have xm2 : nI (w - 1) = nI w + (-1) := by rcases (show w = 1 ∨ w = 2 ∨ w = 3 ∨ w = 4 by omega) with rfl | rfl | rfl | rfl <;> decide
    rw [if_neg (nI_ge (by omega) (by omega)), letsN, letsN, jnsN, xm]
    obtain ⟨U, k1, k2, k3, -⟩ := dec_l (k := k) (m := sm k) rfl ⟨by omega, s22⟩ (fun (P0_26 : PI) => mb_chk (nI (w - 1)) 4 (mb_jn (fun (y_30 : Int64) => mb_let y_30 (fun (x9_33 : Int64) => (if (lg_cmp x9_33 (0 : Int64)) < 0 then mb_let (nI x + (1 : Int32)) (fun (x7_34 : Int32) => S best x7_34 P0_26) else mb_jn (mb_let x9_33 (fun (x5_37 : Int64) => mb_let (0 : Int32) (fun (x11_38 : Int32) => mb_jn (fun (P0_39 : PI) => mb_let (nI x + (1 : Int32)) (fun (x7_42 : Int32) => S x5_37 x7_42 P0_39)) (fun K217_40 => f_Ref_rounds_191 K217_40 mb_fu x11_38 P0_26)))) (fun J184_35 => (if (lg_cmp best (0 : Int64)) < 0 then J184_35 else (if 0 ≤ (lg_cmp x9_33 best) then mb_let (nI x + (1 : Int32)) (fun (x7_53 : Int32) => S best x7_53 P0_26) else J184_35)))))) (fun J160_31 => (if (P0_26 40 (nI (w - 1)).toNatClampNeg) = 0 then mb_bd1 (f_Ref_cheatedBy P0_26 (nI w)) (fun (r_57 : Int64) => J160_31 r_57) else J160_31 (-1 : Int64))))) w mb_fu x P hw.2 (fu_lt (by omega)) (by omega) h36 h38
    rw [← xm2] at k1
    rw [k1, chkN (by omega) (by decide), jnsN, nI_clamp (by omega)]
    obtain ⟨d1, d2⟩ := di_last (m := sm k) (x := x) hw.1
    have last : U 40 (w - 1) = nI (ss k (x % sm k)) := by rw [k3 (w - 1) (by omega), d1]
    have xl := Nat.mod_lt x sp
    have sf := ss_m hk _ xl
    have hU : eqx [38, 39, 40] [36] P0 U := eqx_tr hP ⟨fun q a z => k2.1 q (fun y => a (by simp at y; simp [y])) z, fun j a => k2.2 j (by simp)⟩
    have u36 : U 0 36 = nI (sm k) := by rw [k2.2 36 (by simp)]; exact h36
    have u38 : ∀ i, i < sm k → U 38 i = nI (ss k i) := fun i hi => by rw [k2.1 38 (by simp) (by decide)]; exact h38 i hi
    have u39 : U 39 = P 39 := k2.1 39 (by simp) (by decide)
    by_cases q : x % sm k = 0
    · -- a plan
      have s0 : ss k (x % sm k) = 0 := sf.2.2.2.mpr q
      rw [if_pos (by rw [last, s0]; rfl)]
      have ex : x / sm k * sm k = x := by
        have := Nat.div_add_mod x (sm k)
        rw [q, Nat.mul_comm] at this
        omega
      have el : x / sm k < sm k ^ (w - 1) := Nat.div_lt_of_lt_mul (by rw [Nat.mul_comm, ← pw2]; omega)
      obtain ⟨c1, c2⟩ := kc_tg hk hw (x / sm k)
      have rows : ∀ j, j < w → U 40 j = nI (tg (kc k w (x / sm k)) j) := by
        intro j hj
        rw [c2 j (by omega)]
        by_cases y : j + 1 < w
        · rw [if_pos y, k3 j hj, d2 j y]
        · rw [if_neg y, show j = w - 1 by omega, last, s0]
      obtain ⟨v, v1, v2⟩ := hch U _ hU c1 (fun j hj y => by rw [c2 j hj, if_neg (by omega)]) rows
      rw [v1, bd1s]
      obtain ⟨best', P', a1, a2, a3⟩ := r_aft (x := x) hw.2 (bRo_cong u39 hb) rows v2 h0 S
      have nx := ih (x + 1) f P' best' (up1 V b (kc k w (x / sm k))) (by omega) (by omega) (eqx_tr hU ⟨fun q a z => a2.1 q (fun y => a (by simp at y; simp [y])) z, fun j a => a2.2 j (by simp)⟩) (by rw [a2.2 36 (by simp)]; exact u36) (fun i hi => by rw [a2.1 38 (by simp) (by decide)]; exact u38 i hi) a3
      have nop : op1 V (sn k w (x + 1)) (up1 V b (kc k w (x / sm k))) := by
        refine op1_add (fun c hc => ?_) (fun c hc => ?_) ⟨x / sm k, by omega, el, rfl⟩ (fun c hc => ?_) hop
        · obtain ⟨e1, h1, h2, h3⟩ := hc
          exact ⟨e1, by omega, h2, h3⟩
        · obtain ⟨e1, h1, h2, h3⟩ := hc
          by_cases y : e1 * sm k < x
          · exact Or.inl ⟨e1, y, h2, h3⟩
          · right
            have : e1 * sm k = x / sm k * sm k := by omega
            rw [h3, Nat.eq_of_mul_eq_mul_right sp this]
        · obtain ⟨e1, h1, h2, h3⟩ := hc
          rw [h3]
          refine kc_lt hk hw ?_ el
          apply Classical.byContradiction
          intro y
          have : x / sm k * sm k ≤ e1 * sm k := Nat.mul_le_mul_right _ (by omega)
          omega
      obtain ⟨z1, z2, z3, z4, z5⟩ := nx nop
      rw [hS] at z4
      exact ⟨z1, z2, z3, Eq.trans a1 z4, z5⟩
    · have sn0 : ¬ U 40 (w - 1) = 0 := by
        rw [last]
        refine nI_ne0 ?_ (by omega)
        have : ¬ ss k (x % sm k) = 0 := fun z => q (sf.2.2.2.mp z)
        omega
      rw [if_neg sn0]
      show ∃ (best' : Int64) (P' : PI) (b' : Option Nat), mb_let (-1 : Int64) _ = K best' P' ∧ _
      rw [letsN, if_pos (by rw [c0l]; decide), letsN, nI_1, ← hS]
      refine ih (x + 1) f U best b (by omega) (by omega) hU u36 u38 (bRo_cong u39 hb) ?_
      refine op1_cong (fun c hc => ?_) (fun c hc => ?_) hop
      · obtain ⟨e1, h1, h2, h3⟩ := hc
        exact ⟨e1, by omega, h2, h3⟩
      · obtain ⟨e1, h1, h2, h3⟩ := hc
        refine ⟨e1, ?_, h2, h3⟩
        apply Classical.byContradiction
        intro y
        apply q
        rw [show x = e1 * sm k by omega]
        exact Nat.mul_mod_left _ _
/-- the reference's answer -/
theorem r_all {V : Nat → Int} {k w : Nat} (hk : k = 1 ∨ k = 2) (hw : 1 ≤ w ∧ w ≤ 4) (h0 : ∀ z, 0 ≤ V z) {P0 : PI} (hch : ∀ (P : PI) (c : Nat), eqx [38, 39, 40] [36] P0 P → c < 262144 → (∀ j, j < 4 → w ≤ j + 1 → tg c j = 0) → (∀ j, j < w → P 40 j = nI (tg c j)) → ∃ v : Int64, f_Ref_cheatedBy P (nI w) = some v ∧ v.toInt = V c) (K : Int64 → PI → Option (Int64 × PI)) : ∃ (U : PI), f_Ref_laySets P0 (nI k) = some U ∧ ∃ (best : Int64) (P' : PI) (b : Option Nat), f_Ref_rounds_54 U (nI w) (fun (x4_7 : Int32) => mb_let (-1 : Int64) (fun (x5_10 : Int64) => mb_let (0 : Int32) (fun (x7_11 : Int32) => mb_jn K (fun K223_14 => f_Ref_rounds_83 (nI w) x4_7 K223_14 mb_fu x5_10 x7_11 U)))) mb_fu 1 0 = K best P' ∧ eqx [38, 39, 40] [36] P0 P' ∧ bRo V w P' best b ∧ op1 V (cnd w k) b := by
  obtain ⟨U, u1, u2, u3, u4⟩ := lay_sets hk P0
  obtain ⟨pw1, -⟩ := pw_lt hk hw
  have hU : eqx [38, 39, 40] [36] P0 U := ⟨fun q a z => u2.1 q (fun y => a (by simp at y; simp [y])) z, u2.2⟩
  refine ⟨U, u1, ?_⟩
  obtain ⟨best, P', b, k1, k2, k3, k4⟩ := r83 hk hw h0 hch K (sm k ^ w) 0 mb_fu U (-1) none (by omega) (fu_lt pw1) hU u3 u4 rfl (fun c hc => by
    obtain ⟨e1, h1, -⟩ := hc
    omega)
  rw [nI_0] at k1
  have e54 := r54 (m := sm k) hw.2 u3 (fun (x4_7 : Int32) => mb_let (-1 : Int64) (fun (x5_10 : Int64) => mb_let (0 : Int32) (fun (x7_11 : Int32) => mb_jn K (fun K223_14 => f_Ref_rounds_83 (nI w) x4_7 K223_14 mb_fu x5_10 x7_11 U)))) w 0 mb_fu (by omega) (fu_lt (by omega))
  rw [Nat.pow_zero, letsN, letsN, jnsN, nI_0] at e54
  refine ⟨best, P', b, e54.trans k1, k2, k3, op1_cong (fun c hc => ?_) (fun c hc => ?_) k4⟩
  · obtain ⟨e1, -, -, rfl⟩ := hc
    exact kc_cnd hk hw e1
  · obtain ⟨e1, h1, rfl⟩ := kc_sur hk hw hc
    refine ⟨e1, ?_, h1, rfl⟩
    rw [(pw_lt hk hw).2]
    exact Nat.mul_lt_mul_of_pos_right h1 (sm_pos k)
