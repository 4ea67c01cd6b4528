/-! best: the reference's rows -/
theorem dst_l {m k : Nat} (hm : m ≤ 4) (hk : k < 4) {P : PI} (K : Int32 → Option (PI × PL)) : ∀ (r i n : Nat) (bw : Bool), i + r = m → r < n → ∃ bv : Bool, f_Ref_layBest_118 P (nI m) (nI k) K n (if bw = true then 1 else 0) (nI i) = K (if bv = true then 1 else 0) ∧ (bv = true ↔ (bw = true ∧ ∀ j, i ≤ j → j < m → P 27 j ≠ P 27 k)) := by
  intro r
  induction r with
  | zero =>
    intro i n bw e hn
    obtain ⟨n, rfl⟩ : ∃ m, n = m + 1 := ⟨n - 1, by omega⟩
    have ei : i = m := by omega
    subst ei
    refine ⟨bw, ?_, ⟨fun z => ⟨z, fun j a b => absurd b (by omega)⟩, fun z => z.1⟩⟩
    show f_Ref_layBest_118_b _ _ _ _ _ _ _ = _
    unfold f_Ref_layBest_118_b
    rw [if_pos (nI_le (Nat.le_refl _) (by omega))]
  | succ r ih =>
    intro i n bw e hn
    obtain ⟨n, rfl⟩ : ∃ m, n = m + 1 := ⟨n - 1, by omega⟩
    have body : f_Ref_layBest_118_b P (nI m) (nI k) K (f_Ref_layBest_118 P (nI m) (nI k) K n) (if bw = true then 1 else 0) (nI i) = f_Ref_layBest_118 P (nI m) (nI k) K n (if (bw && decide (P 27 i ≠ P 27 k)) = true then 1 else 0) (nI (i + 1)) := by
      unfold f_Ref_layBest_118_b
      rw [if_neg (nI_ge (by omega) (by omega))]
      simp only [letsN, jnsN, chkN (show i < 4 by omega) (by decide), chkN hk (by decide), nI_clamp (show i < 2 ^ 31 by omega), nI_clamp (show k < 2 ^ 31 by omega), nI_1]
      cases bw with
      | false => rfl
      | true =>
        rw [if_neg (by decide)]
        by_cases q : P 27 i = P 27 k
        · rw [if_pos q, if_neg]
          simp [q]
        · rw [if_neg q, if_pos]
          simp [q]
    obtain ⟨bv, k1, k2⟩ := ih (i + 1) n (bw && decide (P 27 i ≠ P 27 k)) (by omega) (by omega)
    refine ⟨bv, body.trans k1, ?_⟩
    rw [k2, Bool.and_eq_true, decide_eq_true_eq]
    constructor
    · rintro ⟨⟨a, b⟩, c⟩
      refine ⟨a, fun j h1 h2 => ?_⟩
      by_cases ej : j = i
      · rw [ej]; exact b
      · exact c j (by omega) h2
    · rintro ⟨a, c⟩
      exact ⟨⟨a, c i (Nat.le_refl _) (by omega)⟩, fun j h1 h2 => c j (by omega) h2⟩
theorem dv16 {α : Type} (x : Option α) : mb_dvi (16 : Int32) x = x := by unfold mb_dvi; rw [if_neg (by decide)]
set_option maxHeartbeats 2000000 in
theorem dc_l {N m : Nat} (hN : N ≤ 16) (hm : m ≤ 4) (K : Int32 → PI → Option (PI × PL)) : ∀ (k n l : Nat) (bw : Bool) (P : PI), k ≤ m → k < n → l < 2 ^ 31 → P 0 0 = nI N → ∃ (bv : Bool) (V : PI), f_Ref_layBest_62 (nI m) K n (nI l) (if bw = true then 1 else 0) (nI k + (-1)) P = K (if bv = true then 1 else 0) V ∧ eqx [27] [] P V ∧ (∀ j, j < k → V 27 j = nI (dl k l j)) ∧ (∀ j, k ≤ j → V 27 j = P 27 j) ∧ (bv = true ↔ (bw = true ∧ (∀ j, j < k → dl k l j < N) ∧ ∀ j, j < k → ∀ i, j < i → i < m → V 27 i ≠ V 27 j)) := by
  intro k
  induction k with
  | zero =>
    intro n l bw P _ hn _ _
    obtain ⟨n, rfl⟩ : ∃ m, n = m + 1 := ⟨n - 1, by omega⟩
    refine ⟨bw, P, ?_, eqx_rf _ _ _, fun j hj => absurd hj (by omega), fun _ _ => rfl, ⟨fun z => ⟨z, fun j hj => absurd hj (by omega), fun j hj => absurd hj (by omega)⟩, fun z => z.1⟩⟩
    show f_Ref_layBest_62_b _ _ _ _ _ _ _ = _
    unfold f_Ref_layBest_62_b
    rw [if_pos (by decide)]
  | succ k ih =>
    intro n l bw P hkm hn hl hu
    obtain ⟨n, rfl⟩ : ∃ m, n = m + 1 := ⟨n - 1, by omega⟩
    generalize hP1 : mb_u2 P 27 k (nI (l % 16)) = P1
    have hu1 : P1 0 0 = nI N := by rw [← hP1, u2_ap, if_neg (by omega)]; exact hu
    have pk1 : P1 27 k = nI (l % 16) := by rw [← hP1, u2_ap, if_pos ⟨rfl, rfl⟩]
    have po : ∀ j, j ≠ k → P1 27 j = P 27 j := fun j hj => by rw [← hP1, u2_ap, if_neg (fun z => hj z.2)]
    have q1 : eqx [27] [] P P1 := by rw [← hP1]; exact eqx_u2 (eqx_rf _ _ _) (by decide) (by decide) _ _
    have isu : f_Ref_isUnit P1 (nI (l % 16)) = some (if l % 16 < N then 1 else 0) := by
      rw [isU_c P1 _ hN hu1, nI_toInt (by omega)]
      by_cases q : l % 16 < N
      · rw [if_pos q, if_pos (by omega)]
      · rw [if_neg q, if_neg (by omega)]
    -- what the step does
    have body : f_Ref_layBest_62_b (nI m) K (f_Ref_layBest_62 (nI m) K n) (nI l) (if bw = true then 1 else 0) (nI k) P = f_Ref_layBest_118 P1 (nI m) (nI k) (fun (x5_75 : Int32) => mb_let (nI k + (-1 : Int32)) (fun (x6_78 : Int32) => f_Ref_layBest_62 (nI m) K n (nI (l / 16)) x5_75 x6_78 P1)) mb_fu (if (bw && decide (l % 16 < N)) = true then 1 else 0) (nI (k + 1)) := by
      unfold f_Ref_layBest_62_b
      have e16 : nI l - nI l / (16 : Int32) * (16 : Int32) = nI (l % 16) := pk_rem (d := 16) hl (by decide) (by decide)
      have d16 : nI l / (16 : Int32) = nI (l / 16) := pk_div (d := 16) hl (by decide) (by decide)
      rw [if_neg (nI_pos (by omega)), dv16, chkN (show k < 4 by omega) (by decide), letsN, nI_clamp (by omega), e16, hP1, dv16, letsN, d16]
      simp only [chkN (show k < 4 by omega) (by decide), pk1, isu, jnsN, bd1s, ifz, nI_1]
      cases bw with
      | false =>
        rw [if_neg (show ¬ false = true by decide)]
        rw [letsN, letsN]
        rfl
      | true =>
        rw [if_pos (show true = true from rfl)]
        by_cases q : l % 16 < N
        · rw [if_pos q, letsN, letsN, if_pos (by simp [q])]
        · rw [if_neg q, letsN, letsN, if_neg (by simp [q])]
    obtain ⟨bv, k1, k2⟩ := dst_l (m := m) (k := k) hm (by omega) (P := P1) (fun (x5_75 : Int32) => mb_let (nI k + (-1 : Int32)) (fun (x6_78 : Int32) => f_Ref_layBest_62 (nI m) K n (nI (l / 16)) x5_75 x6_78 P1)) (m - (k + 1)) (k + 1) mb_fu (bw && decide (l % 16 < N)) (by omega) (fu_lt (by omega))
    obtain ⟨bz, V, l1, l2, l3, l4, l5⟩ := ih n (l / 16) bv P1 (by omega) (by omega) (by omega) hu1
    have vk : V 27 k = nI (l % 16) := by rw [l4 k (Nat.le_refl _)]; exact pk1
    have vi : ∀ i, k < i → V 27 i = P1 27 i := fun i hi => l4 i (by omega)
    refine ⟨bz, V, ?_, eqx_tr q1 l2, fun j hj => ?_, fun j hj => ?_, ?_⟩
    · show f_Ref_layBest_62_b (nI m) K (f_Ref_layBest_62 (nI m) K n) (nI l) (if bw = true then 1 else 0) (nI (k + 1) + (-1)) P = _
      rw [pk_m1, body, k1, letsN]
      exact l1
    · by_cases ej : j = k
      · subst ej
        rw [vk]
        show nI (l % 16) = nI (if j = j then l % 16 else _)
        rw [if_pos rfl]
      · rw [l3 j (by omega)]
        show _ = nI (if j = k then l % 16 else dl k (l / 16) j)
        rw [if_neg ej]
    · rw [vi j (by omega), po j (by omega)]
    · rw [l5, k2, Bool.and_eq_true, decide_eq_true_eq]
      constructor
      · rintro ⟨⟨⟨a, b⟩, c⟩, d, e⟩
        refine ⟨a, fun j hj => ?_, fun j hj i h1 h2 => ?_⟩
        · show (if j = k then l % 16 else dl k (l / 16) j) < N
          split
          · exact b
          · exact d j (by omega)
        · by_cases ej : j = k
          · subst ej
            rw [vi i h1, l4 j (Nat.le_refl _)]
            exact c i (by omega) h2
          · exact e j (by omega) i h1 h2
      · rintro ⟨a, d, e⟩
        refine ⟨⟨⟨a, ?_⟩, fun j h1 h2 => ?_⟩, fun j hj => ?_, fun j hj i h1 h2 => e j (by omega) i h1 h2⟩
        · have := d k (by omega)
          have t : (if k = k then l % 16 else dl k (l / 16) k) < N := this
          rw [if_pos rfl] at t
          exact t
        · have := e k (by omega) j (by omega) h2
          rw [vi j (by omega), l4 k (Nat.le_refl _)] at this
          exact this
        · have := d j (by omega)
          have t : (if j = k then l % 16 else dl k (l / 16) j) < N := this
          rw [if_neg (by omega)] at t
          exact t
def endv : Option Int64 → Int64
  | none => -4
  | some v => v
def oc (o : Option Int64) (f : Int64 → Option Int64) : Option Int64 :=
  match o with
  | none => some (-4)
  | some y => f y
theorem oc_b {o : Option Int64} {f : Int64 → Option Int64} {g : Int64 → Option Int64} (h : ∀ y, f y = some (endv (g y))) : oc o f = some (endv (o.bind g)) := by
  cases o with
  | none => rfl
  | some y => exact h y
theorem rT_cong {n : Nat} {P2 PR V : PI} (h : rTables n P2 PR) (e : V 5 = PR 5) : rTables n P2 V := by
  refine ⟨h.1, fun j hj => ?_⟩
  rw [e]
  exact h.2 j hj
set_option maxHeartbeats 1000000 in
theorem rd_b {n m c : Nat} {P2 PR : PI} (hT : rTables n P2 PR) (hm : 1 ≤ m ∧ m ≤ 4) (hr : ∀ k, k < m → PR 27 k = nI (dl m c k)) {k : Nat} (hk : k < m) (x : Int64) (S : Int64 → Int32 → Option Int64) : f_Ref_round_7_b PR (nI m) S x (nI k) = oc (hop P2 x (dl m c k) (dl m c ((k + 1) % m))) (fun y => S y (nI (k + 1))) := by
  have l1 := dl_lt m c k
  have l2 := dl_lt m c ((k + 1) % m)
  have lm := Nat.mod_lt (k + 1) (show 0 < m by omega)
  unfold f_Ref_round_7_b mb_dvi
  rw [if_neg (nI_ge hk (by omega)), chkN (show k < 4 by omega) (by decide), letsN, nI_clamp (by omega), hr k hk, if_neg (nI_ne0 (by omega) (by omega)), nI_1, pk_rem (a := k + 1) (d := m) (by omega) (by omega) (by omega), chkN (show (k + 1) % m < 4 by omega) (by decide), letsN, nI_clamp (by omega), hr _ lm, rT_has hT l1 l2, has_c l1 l2, bd1s, ifz]
  unfold hop
  by_cases a : 1 ≤ (P2 2 (dl m c k * 16 + dl m c ((k + 1) % m))).toInt
  · rw [if_pos a, if_pos a, (rT_turned hT l1 l2 x a).2, bd1s, letsN]
    show (if lg_cmp (tn P2 (dl m c k) (dl m c ((k + 1) % m)) x) 1000000000000 ≤ 0 then mb_let (nI (k + 1)) (fun x4_16 => S (tn P2 (dl m c k) (dl m c ((k + 1) % m)) x) x4_16) else some (-4)) = _
    by_cases v : (tn P2 (dl m c k) (dl m c ((k + 1) % m)) x).toInt ≤ 1000000000000
    · rw [if_pos v, if_pos ((lg_cmp_le _ _).mpr (Int64.le_iff_toInt_le.mpr v)), letsN]
      rfl
    · rw [if_neg v, if_neg (fun z => v (Int64.le_iff_toInt_le.mp ((lg_cmp_le _ _).mp z)))]
      rfl
  · rw [if_neg a, if_neg a]
    rfl
theorem rd_e {m : Nat} (hm : m ≤ 4) {PR : PI} (x : Int64) (n : Nat) : f_Ref_round_7 PR (nI m) (n + 1) x (nI m) = some (endv (some x)) := by
  show f_Ref_round_7_b _ _ _ _ _ = _
  unfold f_Ref_round_7_b
  rw [if_pos (nI_le (Nat.le_refl _) (by omega))]
  rfl
def rdv (P : PI) (m c : Nat) : Option Int64 :=
  if m = 2 then (hop P 1000000 (dl 2 c 0) (dl 2 c 1)).bind (fun x => (hop P x (dl 2 c 1) (dl 2 c 0)).bind some)
  else if m = 3 then (hop P 1000000 (dl 3 c 0) (dl 3 c 1)).bind (fun x => (hop P x (dl 3 c 1) (dl 3 c 2)).bind (fun x => (hop P x (dl 3 c 2) (dl 3 c 0)).bind some))
  else (hop P 1000000 (dl 4 c 0) (dl 4 c 1)).bind (fun x => (hop P x (dl 4 c 1) (dl 4 c 2)).bind (fun x => (hop P x (dl 4 c 2) (dl 4 c 3)).bind (fun x => (hop P x (dl 4 c 3) (dl 4 c 0)).bind some)))
set_option maxHeartbeats 1000000 in
theorem round_c {n m c : Nat} {P2 PR : PI} (hT : rTables n P2 PR) (hm : m = 2 ∨ m = 3 ∨ m = 4) (hr : ∀ k, k < m → PR 27 k = nI (dl m c k)) : f_Ref_round PR (nI m) = some (endv (rdv P2 m c)) := by
  have st : ∀ (k : Nat) (hk : k < m) (x : Int64) (f : Nat), f_Ref_round_7 PR (nI m) (f + 1) x (nI k) = oc (hop P2 x (dl m c k) (dl m c ((k + 1) % m))) (fun y => f_Ref_round_7 PR (nI m) f y (nI (k + 1))) := by
    intro k hk x f
    show f_Ref_round_7_b PR (nI m) (f_Ref_round_7 PR (nI m) f) x (nI k) = _
    exact rd_b hT (by omega) hr hk x _
  obtain ⟨f, hf⟩ : ∃ f, mb_fu = f + 5 := ⟨mb_fu - 5, by unfold mb_fu; omega⟩
  unfold f_Ref_round
  rw [letsN, letsN, hf, ← nI_0]
  unfold rdv
  rcases hm with rfl | rfl | rfl
  · rw [if_pos rfl, st 0 (by decide)]
    refine oc_b (fun y => ?_)
    rw [st 1 (by decide)]
    refine oc_b (fun y => ?_)
    exact rd_e (by decide) y _
  · rw [if_neg (by decide), if_pos rfl, st 0 (by decide)]
    refine oc_b (fun y => ?_)
    rw [st 1 (by decide)]
    refine oc_b (fun y => ?_)
    rw [st 2 (by decide)]
    refine oc_b (fun y => ?_)
    exact rd_e (by decide) y _
  · rw [if_neg (by decide), if_neg (by decide), st 0 (by decide)]
    refine oc_b (fun y => ?_)
    rw [st 1 (by decide)]
    refine oc_b (fun y => ?_)
    rw [st 2 (by decide)]
    refine oc_b (fun y => ?_)
    rw [st 3 (by decide)]
    refine oc_b (fun y => ?_)
    exact rd_e (by decide) y _
