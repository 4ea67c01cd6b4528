/-! rounds: the reference goes through the plans -/
def kc (k w e : Nat) : Nat := if w ≤ 1 then 0 else if w = 2 then ss k (e % sm k) * 4096 else if w = 3 then ss k (e / sm k % sm k) * 4096 + ss k (e % sm k) * 64 else ss k (e / sm k / sm k % sm k) * 4096 + ss k (e / sm k % sm k) * 64 + ss k (e % sm k)
theorem sm_pos (k : Nat) : 0 < sm k := by unfold sm; split <;> decide
theorem ssl {k : Nat} (hk : k = 1 ∨ k = 2) (x : Nat) : ss k (x % sm k) < 64 := (ss_m hk _ (Nat.mod_lt _ (sm_pos k))).2.1
theorem kc_tg {k w : Nat} (hk : k = 1 ∨ k = 2) (hw : 1 ≤ w ∧ w ≤ 4) (e : Nat) : kc k w e < 262144 ∧ ∀ j, j < 4 → tg (kc k w e) j = if j + 1 < w then ss k (di (sm k) (w - 1) e j) else 0 := by
  have a := ssl hk e
  have b := ssl hk (e / sm k)
  have c := ssl hk (e / sm k / sm k)
  unfold kc
  rcases (show w = 1 ∨ w = 2 ∨ w = 3 ∨ w = 4 by omega) with rfl | rfl | rfl | rfl
  · rw [if_pos (by decide)]
    refine ⟨by decide, fun j hj => ?_⟩
    rw [if_neg (by omega)]
    rcases (show j = 0 ∨ j = 1 ∨ j = 2 ∨ j = 3 by omega) with rfl | rfl | rfl | rfl <;> rfl
  · rw [if_neg (by decide), if_pos rfl]
    generalize hA : ss k (e % sm k) = A at *
    refine ⟨by omega, fun j hj => ?_⟩
    rcases (show j = 0 ∨ j = 1 ∨ j = 2 ∨ j = 3 by omega) with rfl | rfl | rfl | rfl
    · rw [if_pos (by decide), tg0]
      show _ = ss k (e % sm k)
      omega
    · rw [if_neg (by decide), tg1]; omega
    · rw [if_neg (by decide), tg2]; omega
    · rw [if_neg (by decide)]; rfl
  · rw [if_neg (by decide), if_neg (by decide), if_pos rfl]
    generalize hA : ss k (e % sm k) = A at *
    generalize hB : ss k (e / sm k % sm k) = B at *
    refine ⟨by omega, fun j hj => ?_⟩
    rcases (show j = 0 ∨ j = 1 ∨ j = 2 ∨ j = 3 by omega) with rfl | rfl | rfl | rfl
    · rw [if_pos (by decide), tg0]
      show _ = ss k (e / sm k % sm k)
      omega
    · rw [if_pos (by decide), tg1]
      show _ = ss k (e % sm k)
      omega
    · rw [if_neg (by decide), tg2]; omega
    · rw [if_neg (by decide)]; rfl
  · rw [if_neg (by decide), if_neg (by decide), if_neg (by decide)]
    generalize hA : ss k (e % sm k) = A at *
    generalize hB : ss k (e / sm k % sm k) = B at *
    generalize hC : ss k (e / sm k / sm k % sm k) = C at *
    refine ⟨by omega, fun j hj => ?_⟩
    rcases (show j = 0 ∨ j = 1 ∨ j = 2 ∨ j = 3 by omega) with rfl | rfl | rfl | rfl
    · rw [if_pos (by decide), tg0]
      show _ = ss k (e / sm k / sm k % sm k)
      omega
    · rw [if_pos (by decide), tg1]
      show _ = ss k (e / sm k % sm k)
      omega
    · rw [if_pos (by decide), tg2]
      show _ = ss k (e % sm k)
      omega
    · rw [if_neg (by decide)]; rfl
theorem kc_cnd {k w : Nat} (hk : k = 1 ∨ k = 2) (hw : 1 ≤ w ∧ w ≤ 4) (e : Nat) : cnd w k (kc k w e) := by
  obtain ⟨a, b⟩ := kc_tg hk hw e
  refine ⟨a, fun t ht => ⟨fun q => ?_, fun q => ?_⟩⟩
  · rw [b t (by omega), if_pos q]
    exact (ss_m hk _ (di_lt (sm_pos k) _ _ _)).2.2.1
  · rw [b t (by omega), if_neg (by omega)]
theorem kc_lt {k w : Nat} (hk : k = 1 ∨ k = 2) (hw : 1 ≤ w ∧ w ≤ 4) {e e' : Nat} (h : e' < e) (he : e < sm k ^ (w - 1)) : kc k w e' < kc k w e := by
  have mono : ∀ i j, j < i → i < sm k → ss k j < ss k i := fun i j a b => (ss_m hk i b).1 j a
  have a := ssl hk e
  have b := ssl hk (e / sm k)
  have c := ssl hk (e / sm k / sm k)
  have a' := ssl hk e'
  have b' := ssl hk (e' / sm k)
  have c' := ssl hk (e' / sm k / sm k)
  have sp := sm_pos k
  have pw : sm k ^ 0 = 1 := Nat.pow_zero _
  unfold kc
  rcases (show w = 1 ∨ w = 2 ∨ w = 3 ∨ w = 4 by omega) with rfl | rfl | rfl | rfl
  · have he' : e < 1 := he
    omega
  · have he' : e < sm k := by rw [← Nat.pow_one (sm k)]; exact he
    rw [if_neg (by decide), if_pos rfl, if_neg (by decide), if_pos rfl, Nat.mod_eq_of_lt he', Nat.mod_eq_of_lt (by omega)]
    have := mono e e' h he'
    omega
  · have he' : e < sm k * sm k := by rw [← Nat.pow_two]; exact he
    rw [if_neg (by decide), if_neg (by decide), if_pos rfl, if_neg (by decide), if_neg (by decide), if_pos rfl]
    have q1 : e / sm k < sm k := Nat.div_lt_of_lt_mul he'
    have q2 : e' / sm k ≤ e / sm k := Nat.div_le_div_right (by omega)
    rw [Nat.mod_eq_of_lt q1] at b ⊢
    rw [Nat.mod_eq_of_lt (show e' / sm k < sm k by omega)] at b' ⊢
    by_cases q : e' / sm k < e / sm k
    · have := mono _ _ q q1
      omega
    · have eq : e' / sm k = e / sm k := by omega
      have d1 := Nat.div_add_mod e (sm k)
      have d2 := Nat.div_add_mod e' (sm k)
      rw [eq] at d2
      have r1 := Nat.mod_lt e sp
      have := mono (e % sm k) (e' % sm k) (by omega) r1
      rw [eq]
      omega
  · have he' : e < sm k * sm k * sm k := by
      have : sm k ^ (4 - 1) = sm k * sm k * sm k := by rw [show 4 - 1 = 2 + 1 from rfl, Nat.pow_succ, Nat.pow_two]
      rw [← this]; exact he
    rw [if_neg (by decide), if_neg (by decide), if_neg (by decide), if_neg (by decide), if_neg (by decide), if_neg (by decide)]
    have p1 : e / sm k < sm k * sm k := Nat.div_lt_of_lt_mul (by rw [Nat.mul_comm]; exact he')
    have q1 : e / sm k / sm k < sm k := Nat.div_lt_of_lt_mul p1
    have q0 : e' / sm k ≤ e / sm k := Nat.div_le_div_right (by omega)
    have q2 : e' / sm k / sm k ≤ e / sm k / sm k := Nat.div_le_div_right q0
    rw [Nat.mod_eq_of_lt q1] at c ⊢
    rw [Nat.mod_eq_of_lt (show e' / sm k / sm k < sm k by omega)] at c' ⊢
    by_cases q : e' / sm k / sm k < e / sm k / sm k
    · have := mono _ _ q q1
      omega
    · have eq : e' / sm k / sm k = e / sm k / sm k := by omega
      have d1 := Nat.div_add_mod (e / sm k) (sm k)
      have d2 := Nat.div_add_mod (e' / sm k) (sm k)
      rw [eq] at d2 ⊢
      have r1 := Nat.mod_lt (e / sm k) sp
      by_cases y : e' / sm k < e / sm k
      · have := mono (e / sm k % sm k) (e' / sm k % sm k) (by omega) r1
        omega
      · have eq2 : e' / sm k = e / sm k := by omega
        have d3 := Nat.div_add_mod e (sm k)
        have d4 := Nat.div_add_mod e' (sm k)
        rw [eq2] at d4 ⊢
        have r2 := Nat.mod_lt e sp
        have := mono (e % sm k) (e' % sm k) (by omega) r2
        omega
theorem kc_sur {k w c : Nat} (hk : k = 1 ∨ k = 2) (hw : 1 ≤ w ∧ w ≤ 4) (h : cnd w k c) : ∃ e, e < sm k ^ (w - 1) ∧ kc k w e = c := by
  have t0 := tg_lt h.1 0
  have t1 := tg_lt h.1 1
  have t2 := tg_lt h.1 2
  have sp := sm_pos k
  have md : ∀ a b, b < sm k → (a * sm k + b) % sm k = b ∧ (a * sm k + b) / sm k = a := by
    intro a b hb
    refine ⟨?_, ?_⟩
    · rw [Nat.add_comm, Nat.add_mul_mod_self_right]; exact Nat.mod_eq_of_lt hb
    · rw [Nat.add_comm, Nat.add_mul_div_right _ _ sp, Nat.div_eq_of_lt hb, Nat.zero_add]
  have e0 : c = tg c 0 * 4096 + tg c 1 * 64 + tg c 2 := by
    have := h.1
    rw [tg0, tg1, tg2]; omega
  have lt2 : ∀ a b m, a < m → b < sm k → a * sm k + b < m * sm k := by
    intro a b m ha hb
    have : (a + 1) * sm k ≤ m * sm k := Nat.mul_le_mul_right _ ha
    rw [Nat.succ_mul] at this
    omega
  rcases (show w = 1 ∨ w = 2 ∨ w = 3 ∨ w = 4 by omega) with rfl | rfl | rfl | rfl
  · refine ⟨0, by rw [Nat.pow_zero]; decide, ?_⟩
    have z0 := (h.2 0 (by decide)).2 (by decide)
    have z1 := (h.2 1 (by decide)).2 (by decide)
    have z2 := (h.2 2 (by decide)).2 (by decide)
    show 0 = c
    omega
  · have z1 := (h.2 1 (by decide)).2 (by decide)
    have z2 := (h.2 2 (by decide)).2 (by decide)
    obtain ⟨s1, s2⟩ := ss_s hk _ t0 ((h.2 0 (by decide)).1 (by decide))
    refine ⟨cn k (tg c 0), by rw [Nat.pow_one]; exact s1, ?_⟩
    show ss k (cn k (tg c 0) % sm k) * 4096 = c
    rw [Nat.mod_eq_of_lt s1, s2]
    omega
  · have z2 := (h.2 2 (by decide)).2 (by decide)
    obtain ⟨s1, s2⟩ := ss_s hk _ t0 ((h.2 0 (by decide)).1 (by decide))
    obtain ⟨u1, u2⟩ := ss_s hk _ t1 ((h.2 1 (by decide)).1 (by decide))
    obtain ⟨m1, m2⟩ := md (cn k (tg c 0)) (cn k (tg c 1)) u1
    refine ⟨cn k (tg c 0) * sm k + cn k (tg c 1), by rw [Nat.pow_two]; exact lt2 _ _ _ s1 u1, ?_⟩
    show ss k ((cn k (tg c 0) * sm k + cn k (tg c 1)) / sm k % sm k) * 4096 + ss k ((cn k (tg c 0) * sm k + cn k (tg c 1)) % sm k) * 64 = c
    rw [m1, m2, Nat.mod_eq_of_lt s1, s2, u2]
    omega
  · obtain ⟨s1, s2⟩ := ss_s hk _ t0 ((h.2 0 (by decide)).1 (by decide))
    obtain ⟨u1, u2⟩ := ss_s hk _ t1 ((h.2 1 (by decide)).1 (by decide))
    obtain ⟨v1, v2⟩ := ss_s hk _ t2 ((h.2 2 (by decide)).1 (by decide))
    obtain ⟨m1, m2⟩ := md (cn k (tg c 0)) (cn k (tg c 1)) u1
    obtain ⟨n1, n2⟩ := md (cn k (tg c 0) * sm k + cn k (tg c 1)) (cn k (tg c 2)) v1
    refine ⟨(cn k (tg c 0) * sm k + cn k (tg c 1)) * sm k + cn k (tg c 2), by rw [show 4 - 1 = 2 + 1 from rfl, Nat.pow_succ, Nat.pow_two]; exact lt2 _ _ _ (lt2 _ _ _ s1 u1) v1, ?_⟩
    show ss k (((cn k (tg c 0) * sm k + cn k (tg c 1)) * sm k + cn k (tg c 2)) / sm k / sm k % sm k) * 4096 + ss k (((cn k (tg c 0) * sm k + cn k (tg c 1)) * sm k + cn k (tg c 2)) / sm k % sm k) * 64 + ss k (((cn k (tg c 0) * sm k + cn k (tg c 1)) * sm k + cn k (tg c 2)) % sm k) = c
    rw [n1, n2, m1, m2, Nat.mod_eq_of_lt s1, s2, u2, v2]
    omega
def bRo (V : Nat → Int) (w : Nat) (P : PI) (best : Int64) : Option Nat → Prop
  | none => best = -1
  | some c => best.toInt = V c ∧ ∀ j, j < w → P 39 j = nI (tg c j)
theorem bRo_cong {V : Nat → Int} {w : Nat} {P U : PI} {x : Int64} {b : Option Nat} (e : U 39 = P 39) (h : bRo V w P x b) : bRo V w U x b := by
  cases b with
  | none => exact h
  | some c => exact ⟨h.1, fun j hj => by rw [e]; exact h.2 j hj⟩
def sn (k w x c : Nat) : Prop := ∃ e, e * sm k < x ∧ e < sm k ^ (w - 1) ∧ c = kc k w e
theorem c0l (y : Int64) : lg_cmp y 0 < 0 ↔ y.toInt < 0 := by rw [lg_cmp_lt, Int64.lt_iff_toInt_lt]; rfl
/-- behind a plan's value -/
theorem r_aft {V : Nat → Int} {w x c : Nat} (hw : w ≤ 4) {P : PI} {best y : Int64} {b : Option Nat} (hb : bRo V w P best b) (hp : ∀ j, j < w → P 40 j = nI (tg c j)) (hy : y.toInt = V c) (h0 : ∀ z, 0 ≤ V z) (S : Int64 → Int32 → PI → Option (Int64 × PI)) : ∃ (best' : Int64) (P' : PI), (mb_let y (fun (x9_33 : Int64) => (if (lg_cmp x9_33 (0 : Int64)) < 0 then mb_let (nI x + (1 : Int32)) (fun (x7_34 : Int32) => S best x7_34 P) else mb_jn (mb_let x9_33 (fun (x5_37 : Int64) => mb_let (0 : Int32) (fun (x11_38 : Int32) => mb_jn (fun (P0_39 : PI) => mb_let (nI x + (1 : Int32)) (fun (x7_42 : Int32) => S x5_37 x7_42 P0_39)) (fun K217_40 => f_Ref_rounds_191 K217_40 mb_fu x11_38 P)))) (fun J184_35 => (if (lg_cmp best (0 : Int64)) < 0 then J184_35 else (if 0 ≤ (lg_cmp x9_33 best) then mb_let (nI x + (1 : Int32)) (fun (x7_53 : Int32) => S best x7_53 P) else J184_35)))))) = S best' (nI (x + 1)) P' ∧ eqx [39] [] P P' ∧ bRo V w P' best' (up1 V b c) := by
  have y0 : ¬ lg_cmp y 0 < 0 := by rw [c0l, hy]; have := h0 c; omega
  rw [letsN, if_neg y0, jnsN, letsN, letsN, jnsN, letsN, nI_1]
  obtain ⟨V', k1, k2, k3, -⟩ := r191 (fun (P0_39 : PI) => mb_let (nI (x + 1)) (fun (x7_42 : Int32) => S y x7_42 P0_39)) 4 0 mb_fu P (by omega) (fu_lt (by omega))
  rw [nI_0] at k1
  have new : bRo V w V' y (some c) := ⟨hy, fun j hj => by rw [k3 j (by omega) (by omega)]; exact hp j hj⟩
  cases b with
  | none =>
    have be : best = -1 := hb
    rw [if_pos (by rw [c0l, be]; decide), k1, letsN]
    exact ⟨y, V', rfl, k2, new⟩
  | some c0 =>
    have b0 : ¬ lg_cmp best 0 < 0 := by rw [c0l, hb.1]; have := h0 c0; omega
    rw [if_neg b0]
    show ∃ (best' : Int64) (P' : PI), _ ∧ _ ∧ bRo V w P' best' (if V c < V c0 then some c else some c0)
    by_cases q : V c < V c0
    · have q1 : ¬ 0 ≤ lg_cmp y best := fun z => by
        have := Int64.le_iff_toInt_le.mp ((lg_cmp_ge _ _).mp z)
        rw [hy, hb.1] at this
        omega
      rw [if_neg q1, k1, letsN, if_pos q]
      exact ⟨y, V', rfl, k2, new⟩
    · have q1 : 0 ≤ lg_cmp y best := (lg_cmp_ge _ _).mpr (Int64.le_iff_toInt_le.mpr (by rw [hy, hb.1]; omega))
      rw [if_pos q1, if_neg q]
      exact ⟨best, P, rfl, eqx_rf _ _ _, hb⟩
