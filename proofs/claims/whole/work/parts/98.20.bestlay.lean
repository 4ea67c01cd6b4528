/-! best: the reference lays its best row -/
def bRf (P : PI) (L : PL) : Option (Nat × Nat × Int64) → Prop
  | none => P 0 28 = 0 ∧ L 0 29 = -4
  | some (m, c, v) => P 0 28 = nI m ∧ L 0 29 = v ∧ 0 ≤ v.toInt ∧ ∀ k, k < m → P 28 k = nI (dl m c k)
theorem l207 (K : PI → Option (PI × PL)) : ∀ (r i n : Nat) (P : PI), i + r = 4 → r < n → ∃ V : PI, f_Ref_layBest_207 K n (nI i) P = K V ∧ eqx [28] [] P V ∧ (∀ k, i ≤ k → k < 4 → V 28 k = P 27 k) ∧ ∀ k, k < i → V 28 k = P 28 k := by
  intro r
  induction r with
  | zero =>
    intro i n P e hn
    obtain ⟨n, rfl⟩ : ∃ m, n = m + 1 := ⟨n - 1, by omega⟩
    have ei : i = 4 := by omega
    subst ei
    refine ⟨P, ?_, eqx_rf _ _ _, fun k a b => absurd b (by omega), fun _ _ => rfl⟩
    show f_Ref_layBest_207_b _ _ _ _ = _
    unfold f_Ref_layBest_207_b
    rw [if_pos (by decide)]
  | succ r ih =>
    intro i n P e hn
    obtain ⟨n, rfl⟩ : ∃ m, n = m + 1 := ⟨n - 1, by omega⟩
    obtain ⟨V, k1, k2, k3, k4⟩ := ih (i + 1) n (mb_u2 P 28 i (P 27 i)) (by omega) (by omega)
    refine ⟨V, ?_, eqx_tr (eqx_u2 (eqx_rf _ _ _) (by decide) (by decide) _ _) k2, fun k a b => ?_, fun k a => ?_⟩
    · show f_Ref_layBest_207_b _ _ _ _ = _
      unfold f_Ref_layBest_207_b
      rw [if_neg (nge (b := 4) (by omega) (by decide) (y := 4) rfl), chkN (by omega) (by decide), chkN (by omega) (by decide), letsN, letsN, nI_1, nI_clamp (by omega)]
      exact k1
    · by_cases ek : k = i
      · subst ek
        rw [k4 k (by omega), u2_ap, if_pos ⟨rfl, rfl⟩]
      · rw [k3 k (by omega) b, u2_ap, if_neg (by omega)]
    · rw [k4 k (by omega), u2_ap, if_neg (by omega)]
def SR (m c m' c' : Nat) : Prop := cand m' c' ∧ (m' < m ∨ (m' = m ∧ c' < c))
theorem endv_s {o : Option Int64} {b : Int64} (h : ∀ v, o = some v → okv v) (hb : -4 ≤ b.toInt) : (o = none → ¬ b.toInt < (endv o).toInt) := by
  intro e
  rw [e]
  show ¬ b.toInt < (-4 : Int64).toInt
  rw [show (-4 : Int64).toInt = -4 from by decide]
  omega
set_option maxHeartbeats 2000000 in
theorem lb_b {n m c N : Nat} {P2 PR : PI} {LR : PL} (hn : n ≤ 16) (h0 : PR 0 0 = nI n) (hT : rTables n P2 PR) (hc : cand m c) (hN : c < N ∧ N < 2 ^ 31) {b : Option (Nat × Nat × Int64)} (hb : bRf PR LR b) (hm : ∀ m0 c0 v0, b = some (m0, c0, v0) → m0 ≤ m) (K : PI → PL → Option (PI × PL)) (S : Int32 → PI → PL → Option (PI × PL)) : ∃ (V : PI) (W : PL), f_Ref_layBest_46_b (nI m) (nI N) K S (nI c) PR LR = S (nI (c + 1)) V W ∧ eqx [27, 28] [28] PR V ∧ eqL [] [29] LR W ∧ bRf V W (updO (Wv P2 m c) b m c) := by
  have m4 : m = 2 ∨ m = 3 ∨ m = 4 := by rcases hc with h | h | h <;> omega
  have cl : c < 65536 := by rcases hc with h | h | h <;> omega
  -- the rest behind the row
  have rest : ∀ (o : Option Int64) (V : PI), (∀ v, o = some v → okv v) → eqx [27] [] PR V → (∀ v, o = some v → ∀ j, j < m → V 27 j = nI (dl m c j)) → ∃ (V2 : PI) (W : PL), (mb_let (endv o) (fun (x6_36 : Int64) => (if (lg_cmp x6_36 (LR 0 29)) ≤ 0 then mb_let (nI c + (1 : Int32)) (fun (x3_37 : Int32) => S x3_37 V LR) else mb_let (mb_uoL LR 29 x6_36) (fun (L0_38 : PL) => mb_let (mb_uo V 28 (nI m)) (fun (P0_39 : PI) => mb_let (0 : Int32) (fun (x8_40 : Int32) => mb_jn (fun (P0_41 : PI) => mb_let (nI c + (1 : Int32)) (fun (x3_44 : Int32) => S x3_44 P0_41 L0_38)) (fun K233_42 => f_Ref_layBest_207 K233_42 mb_fu x8_40 P0_39))))))) = S (nI (c + 1)) V2 W ∧ eqx [27, 28] [28] PR V2 ∧ eqL [] [29] LR W ∧ bRf V2 W (updO o b m c) := by
    intro o V hv he hr
    have he2 : eqx [27, 28] [28] PR V := ⟨fun q a z => he.1 q (fun y => a (by simp at y; simp [y])) z, fun j a => he.2 j (by simp)⟩
    have keep : bRf V LR b := by
      cases b with
      | none => exact ⟨by rw [he.2 28 (by simp)]; exact hb.1, hb.2⟩
      | some z =>
        obtain ⟨m0, c0, v0⟩ := z
        exact ⟨by rw [he.2 28 (by simp)]; exact hb.1, hb.2.1, hb.2.2.1, fun k hk => by rw [he.1 28 (by simp) (by decide)]; exact hb.2.2.2 k hk⟩
    rw [letsN]
    by_cases q : (LR 0 29).toInt < (endv o).toInt
    · have q1 : ¬ lg_cmp (endv o) (LR 0 29) ≤ 0 := fun z => by
        have := Int64.le_iff_toInt_le.mp ((lg_cmp_le _ _).mp z)
        omega
      rw [if_neg q1, letsN, letsN, letsN, jnsN]
      obtain ⟨V2, k1, k2, k3, -⟩ := l207 (fun (P0_41 : PI) => mb_let (nI c + (1 : Int32)) (fun (x3_44 : Int32) => S x3_44 P0_41 (mb_uoL LR 29 (endv o)))) 4 0 mb_fu (mb_uo V 28 (nI m)) (by omega) (fu_lt (by omega))
      refine ⟨V2, mb_uoL LR 29 (endv o), ?_, ?_, eqL_uo (eqL_rf _ _ _) (by decide) _, ?_⟩
      · rw [← nI_0, k1, letsN, nI_1]
      · refine eqx_tr (eqx_uo he2 (by decide) _) ⟨fun q a z => k2.1 q (fun y => a (by simp at y; simp [y])) z, fun j a => k2.2 j (by simp)⟩
      · have l0 : -4 ≤ (LR 0 29).toInt := by
          cases b with
          | none => rw [hb.2]; decide
          | some z => obtain ⟨m0, c0, v0⟩ := z; rw [hb.2.1]; have := hb.2.2.1; omega
        cases o with
        | none => exact absurd q (endv_s hv l0 rfl)
        | some v =>
          have new : bRf V2 (mb_uoL LR 29 (endv (some v))) (some (m, c, v)) := by
            refine ⟨?_, ?_, (hv v rfl).1, fun k hk => ?_⟩
            · rw [k2.2 28 (by simp), uo_ap, if_pos ⟨rfl, rfl⟩]
            · rw [uoL_ap, if_pos ⟨rfl, rfl⟩]; rfl
            · rw [k3 k (by omega) (by omega), uo_ap, if_neg (by omega)]
              exact hr v rfl k hk
          show bRf _ _ (updC b m c v)
          cases b with
          | none => exact new
          | some z =>
            obtain ⟨m0, c0, v0⟩ := z
            have q2 : v0.toInt < v.toInt := by rw [hb.2.1] at q; exact q
            show bRf _ _ (if v0.toInt < v.toInt ∨ (v.toInt = v0.toInt ∧ m < m0) then some (m, c, v) else some (m0, c0, v0))
            rw [if_pos (Or.inl q2)]
            exact new
    · have q1 : lg_cmp (endv o) (LR 0 29) ≤ 0 := (lg_cmp_le _ _).mpr (Int64.le_iff_toInt_le.mpr (by omega))
      rw [if_pos q1, letsN, nI_1]
      refine ⟨V, LR, rfl, he2, eqL_rf _ _ _, ?_⟩
      cases o with
      | none => exact keep
      | some v =>
        show bRf _ _ (updC b m c v)
        cases b with
        | none =>
          exfalso
          rw [hb.2] at q
          have := (hv v rfl).1
          apply q
          show (-4 : Int64).toInt < v.toInt
          rw [show (-4 : Int64).toInt = -4 from by decide]
          omega
        | some z =>
          obtain ⟨m0, c0, v0⟩ := z
          have m0m := hm m0 c0 v0 rfl
          have q2 : ¬ v0.toInt < v.toInt := by rw [hb.2.1] at q; exact q
          show bRf _ _ (if v0.toInt < v.toInt ∨ (v.toInt = v0.toInt ∧ m < m0) then some (m, c, v) else some (m0, c0, v0))
          rw [if_neg (by omega)]
          exact keep
  unfold f_Ref_layBest_46_b
  rw [if_neg (nI_ge hN.1 hN.2), letsN, letsN, letsN, jnsN]
  have xm : nI m - (1 : Int32) = nI m + (-1) := by rcases m4 with rfl | rfl | rfl <;> decide
  rw [xm]
  obtain ⟨bv, V, k1, k2, k3, -, k5⟩ := dc_l (N := n) (m := m) hn (by omega) (fun (x5_29 : Int32) (P0_30 : PI) => mb_jn (fun (y_33 : Int64) => mb_let y_33 (fun (x6_36 : Int64) => (if (lg_cmp x6_36 (LR 0 29)) ≤ 0 then mb_let (nI c + (1 : Int32)) (fun (x3_37 : Int32) => S x3_37 P0_30 LR) else mb_let (mb_uoL LR 29 x6_36) (fun (L0_38 : PL) => mb_let (mb_uo P0_30 28 (nI m)) (fun (P0_39 : PI) => mb_let (0 : Int32) (fun (x8_40 : Int32) => mb_jn (fun (P0_41 : PI) => mb_let (nI c + (1 : Int32)) (fun (x3_44 : Int32) => S x3_44 P0_41 L0_38)) (fun K233_42 => f_Ref_layBest_207 K233_42 mb_fu x8_40 P0_39))))))) (fun J181_34 => (if x5_29 = 0 then J181_34 (-4 : Int64) else mb_bd1 (f_Ref_round P0_30 (nI m)) (fun (r_56 : Int64) => J181_34 r_56)))) m mb_fu c true PR (Nat.le_refl _) (fu_lt (by omega)) (by omega) h0
  have k1 := k1
  rw [if_pos (show true = true from rfl)] at k1
  rw [k1, jnsN]
  have hTV : rTables n P2 V := rT_cong hT (k2.1 5 (by simp) (by decide))
  have wl : bv = true ↔ wel n m c := by
    rw [k5]
    constructor
    · rintro ⟨-, a, d⟩
      refine ⟨a, fun j hj i h1 h2 => ?_⟩
      have := d j hj i h1 h2
      rw [k3 i h2, k3 j hj] at this
      exact fun z => this (by rw [z])
    · rintro ⟨a, d⟩
      refine ⟨rfl, a, fun j hj i h1 h2 => ?_⟩
      rw [k3 i h2, k3 j hj]
      have l1 := dl_lt m c i
      have l2 := dl_lt m c j
      exact fun z => d j hj i h1 h2 ((nI_eq (by omega) (by omega)).mp z)
  have hok : ∀ v, Wv P2 m c = some v → okv v := fun v hv => (W_s hT hc hv).1
  by_cases w : wel n m c
  · rw [wl.mpr w, if_pos rfl, if_neg (by decide), round_c hTV m4 k3, bd1s, ← W_wel hc w]
    exact rest (Wv P2 m c) V hok k2 (fun v _ j hj => k3 j hj)
  · have bf : bv = false := by cases bv with
      | false => rfl
      | true => exact absurd (wl.mp rfl) w
    have wn : Wv P2 m c = none := by
      cases e : Wv P2 m c with
      | none => rfl
      | some v => exact absurd (W_s hT hc e).2 w
    rw [bf, if_neg (show ¬ false = true by decide), if_pos rfl, wn]
    exact rest none V (fun v z => by cases z) k2 (fun v z => by cases z)
