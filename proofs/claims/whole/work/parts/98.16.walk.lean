/-! best: the class walks -/
def bC (P : PI) (L : PL) : Option (Nat × Nat × Int64) → Prop
  | none => P 0 2 = 0
  | some (m, c, v) => 1 ≤ m ∧ m ≤ 4 ∧ P 0 2 = nI m ∧ L 0 1 = v ∧ ∀ k, k < m → P 1 k = nI (dl m c k)
theorem bC_u4 {P : PI} {L : PL} (i : Nat) (v : Int32) : ∀ {b : Option (Nat × Nat × Int64)}, bC P L b → bC (mb_u2 P 4 i v) L b
  | none, h => by
    show mb_u2 P 4 i v 0 2 = 0
    rw [u2_ap, if_neg (by omega)]; exact h
  | some (m, c, w), h => by
    obtain ⟨h1, h2, h3, h4, h5⟩ := h
    refine ⟨h1, h2, ?_, h4, fun k hk => ?_⟩
    · rw [u2_ap, if_neg (by omega)]; exact h3
    · rw [u2_ap, if_neg (by omega)]; exact h5 k hk
theorem cl68 {d : Nat} (hd : d ≤ 4) (L5 : PL) : ∀ (r i n : Nat) (P : PI), i + r = d → r < n → ∃ P' : PI, f_Ways_close_68 L5 (nI d) n (nI i) P = some (P', L5) ∧ (∀ q, q ≠ 1 → P' q = P q) ∧ (∀ k, i ≤ k → k < d → P' 1 k = P 4 k) ∧ ∀ k, k < i → P' 1 k = P 1 k := by
  intro r
  induction r with
  | zero =>
    intro i n P e hn
    obtain ⟨n, rfl⟩ : ∃ m, n = m + 1 := ⟨n - 1, by omega⟩
    have ei : i = d := by omega
    subst ei
    refine ⟨P, ?_, fun _ _ => rfl, fun k a b => absurd b (by omega), fun _ _ => rfl⟩
    show f_Ways_close_68_b _ _ _ _ _ = _
    unfold f_Ways_close_68_b
    rw [if_pos (nI_le (Nat.le_refl _) (by omega))]
  | succ r ih =>
    intro i n P e hn
    obtain ⟨n, rfl⟩ : ∃ m, n = m + 1 := ⟨n - 1, by omega⟩
    obtain ⟨P', k1, k2, k3, k4⟩ := ih (i + 1) n (mb_u2 P 1 i (P 4 i)) (by omega) (by omega)
    refine ⟨P', ?_, fun q hq => ?_, fun k a b => ?_, fun k a => ?_⟩
    · show f_Ways_close_68_b L5 _ (f_Ways_close_68 L5 (nI d) n) _ _ = _
      unfold f_Ways_close_68_b
      rw [if_neg (nI_ge (by omega) (by omega)), chkN (show i < 4 by omega) (by decide), chkN (show i < 4 by omega) (by decide), letsN, letsN, nI_clamp (by omega), nI_1]
      exact k1
    · rw [k2 q hq, u2_ne P i _ hq]
    · by_cases ek : k = i
      · subst ek
        rw [k4 k (by omega), u2_ap, if_pos ⟨rfl, rfl⟩]
      · rw [k3 k (by omega) b, u2_ap, if_neg (by omega)]
    · rw [k4 k (by omega), u2_ap, if_neg (by omega)]
set_option maxHeartbeats 1000000 in
theorem close_c {d p : Nat} (hd : 1 ≤ d ∧ d ≤ 4) {P : PI} {L : PL} {b : Option (Nat × Nat × Int64)} (hb : bC P L b) (hr : ∀ k, k < d → P 4 k = nI (dl d p k)) {v : Int64} (hv : v.toInt ≤ 1000000000000) : ∃ (P' : PI) (L' : PL), f_Ways_close P L v (nI d) = some (P', L') ∧ bC P' L' (updC b d p v) ∧ eqx [1] [2] P P' := by
  obtain ⟨P', k1, k2, k3, k4⟩ := cl68 hd.2 (mb_uoL L 1 v) d 0 mb_fu (mb_uo P 2 (nI d)) (by omega) (fu_lt (by omega))
  rw [nI_0] at k1
  have fin : bC P' (mb_uoL L 1 v) (some (d, p, v)) := by
    refine ⟨hd.1, hd.2, ?_, by rw [uoL_ap, if_pos ⟨rfl, rfl⟩], fun k hk => ?_⟩
    · rw [k2 0 (by decide), uo_ap, if_pos ⟨rfl, rfl⟩]
    · rw [k3 k (by omega) hk, uo_ap, if_neg (by omega)]; exact hr k hk
  have fq : eqx [1] [2] P P' := ⟨fun q a q0 => by rw [k2 q (fun z => a (by rw [z]; decide)), uo_ne P 2 _ q0], fun j a => by rw [k2 0 (by decide), uo_ap, if_neg (fun z => a (by rw [z.2]; decide))]⟩
  unfold f_Ways_close
  have h1 : lg_cmp v (1000000000000 : Int64) ≤ 0 := (lg_cmp_le _ _).mpr (Int64.le_iff_toInt_le.mpr hv)
  rw [if_pos h1]
  simp only [letsN, jnsN, show ¬ (1 : Int32) = 0 by decide, if_false, if_true, lg_cmp_gt, lg_cmp_eq, Int64.lt_iff_toInt_lt, k1]
  cases b with
  | none =>
    rw [if_pos (show P 0 2 = 0 from hb)]
    exact ⟨P', _, rfl, fin, fq⟩
  | some t =>
    obtain ⟨m0, c0, v0⟩ := t
    obtain ⟨h1, h2, h3, h4, h5⟩ := id hb
    rw [h3, h4, if_neg (nI_ne0 (by omega) (by omega))]
    unfold updC
    by_cases a : v0.toInt < v.toInt
    · rw [if_pos a]
      simp only [if_pos (Or.inl a : v0.toInt < v.toInt ∨ (v.toInt = v0.toInt ∧ d < m0))]
      exact ⟨P', _, rfl, fin, fq⟩
    · rw [if_neg a]
      by_cases e : v = v0
      · rw [if_pos e]
        by_cases l : d < m0
        · rw [if_neg (nI_ge l (by omega))]
          simp only [if_pos (Or.inr ⟨by rw [e], l⟩ : v0.toInt < v.toInt ∨ (v.toInt = v0.toInt ∧ d < m0))]
          exact ⟨P', _, rfl, fin, fq⟩
        · rw [if_pos (nI_le (by omega) (by omega))]
          simp only [if_neg (show ¬ (v0.toInt < v.toInt ∨ (v.toInt = v0.toInt ∧ d < m0)) by omega)]
          exact ⟨P, L, rfl, hb, eqx_rf _ _ _⟩
      · rw [if_neg e]
        have ne : v.toInt ≠ v0.toInt := fun z => e (Int64.toInt_inj.mp z)
        simp only [if_neg (show ¬ (v0.toInt < v.toInt ∨ (v.toInt = v0.toInt ∧ d < m0)) by omega)]
        exact ⟨P, L, rfl, hb, eqx_rf _ _ _⟩
theorem close_big {P : PI} {L : PL} {v : Int64} (hv : ¬ v.toInt ≤ 1000000000000) (d : Int32) : f_Ways_close P L v d = some (P, L) := by
  unfold f_Ways_close
  rw [if_neg (fun z => hv (Int64.le_iff_toInt_le.mp ((lg_cmp_le _ _).mp z)))]
theorem tb_turn {n : Nat} {P2 PR : PI} (hT : rTables n P2 PR) {f t : Nat} (hf : f < 16) (ht : t < 16) (x : Int64) (hh : 1 ≤ (P2 2 (f * 16 + t)).toInt) : f_Tables_turned P2 (nI f) (nI t) x = some (tn P2 f t x) := (rT_turned hT hf ht x hh).1
set_option maxHeartbeats 1000000 in
/-- a walk's beginning: the row is closed -/
theorem wk_b {n : Nat} {P2 PR : PI} (hT : rTables n P2 PR) {d p : Nat} (hd : d < 4) {P : PI} {L : PL} {b : Option (Nat × Nat × Int64)} (hb : bC P L b) (hr : ∀ k, k < d + 1 → P 4 k = nI (dl (d + 1) p k)) (x : Int64) (used : Int32) (rc : PI → PL → PI → Int32 → Int64 → Int32 → Option (PI × PL)) : ∃ (P1 : PI) (L1 : PL), f_Ways_walk_b rc P L P2 (nI (d + 1)) x used = (if nI (d + 1) = 4 then some (P1, L1) else f_Ways_walk_63 P2 (nI (d + 1)) x used (nI (dl (d + 1) p d)) rc mb_fu 0 P1 L1) ∧ bC P1 L1 (updO (hop P2 x (dl (d + 1) p d) (dl (d + 1) p 0)) b (d + 1) p) ∧ eqx [1] [2] P P1 := by
  have l1 := dl_lt (d + 1) p d
  have l2 := dl_lt (d + 1) p 0
  unfold f_Ways_walk_b
  rw [if_neg (show ¬ nI (d + 1) < (1 : Int32) from nI_nlt (a := d + 1) (b := 1) (by omega) (by omega)), if_pos (show nI (d + 1) ≤ (4 : Int32) from nI_le (a := d + 1) (b := 4) (by omega) (by decide)), k40, letsN, q40, nI_pred, chkN hd (by decide), letsN, nI_clamp (by omega), hr 0 (by omega), hr d (by omega), has_c l1 l2, bd1s, jnsN, ifz]
  simp only [letsN]
  by_cases a : 1 ≤ (P2 2 (dl (d + 1) p d * 16 + dl (d + 1) p 0)).toInt
  · rw [if_pos a, tb_turn hT l1 l2 x a, bd1s]
    by_cases v : (tn P2 (dl (d + 1) p d) (dl (d + 1) p 0) x).toInt ≤ 1000000000000
    · have eh : hop P2 x (dl (d + 1) p d) (dl (d + 1) p 0) = some (tn P2 (dl (d + 1) p d) (dl (d + 1) p 0) x) := by unfold hop; rw [if_pos a, if_pos v]
      obtain ⟨P1, L1, k1, k2, k3⟩ := close_c (d := d + 1) (p := p) ⟨by omega, by omega⟩ hb hr v
      rw [k1, bd2s, eh]
      exact ⟨P1, L1, rfl, k2, k3⟩
    · have eh : hop P2 x (dl (d + 1) p d) (dl (d + 1) p 0) = none := by unfold hop; rw [if_pos a, if_neg v]
      rw [close_big v, bd2s, eh]
      exact ⟨P, L, rfl, hb, eqx_rf _ _ _⟩
  · have eh : hop P2 x (dl (d + 1) p d) (dl (d + 1) p 0) = none := by unfold hop; rw [if_neg a]
    rw [if_neg a, eh]
    exact ⟨P, L, rfl, hb, eqx_rf _ _ _⟩
def usd : Nat → Nat → Nat → Bool
  | 0, _, _ => false
  | d + 1, p, e => decide (p % 16 = e) || usd d (p / 16) e
def uOn (used : Int32) (d p : Nat) : Prop := ∀ i, i < 32 → bt used i = usd d p i
theorem uOn_up {used : Int32} {d p e : Nat} (he : e < 16) (h : uOn used d p) : uOn (used ||| ((1 : Int32) <<< (nI e &&& 31))) (d + 1) (16 * p + e) := by
  intro i hi
  rw [b_or, b_shl e (by omega) _ hi, h i hi]
  show _ = (decide ((16 * p + e) % 16 = i) || usd d ((16 * p + e) / 16) i)
  rw [show (16 * p + e) % 16 = e by omega, show (16 * p + e) / 16 = p by omega, Bool.or_comm]
  congr 1
  by_cases q : e ≤ i
  · rw [bt1 _ (by omega), Bool.eq_iff_iff]
    simp only [Bool.and_eq_true, decide_eq_true_eq]
    omega
  · rw [decide_eq_false q, Bool.false_and, decide_eq_false (by omega)]
def frW (d : Nat) (P P' : PI) : Prop := P' 0 4 = P 0 4 ∧ ∀ k, k < d → P' 4 k = P 4 k
set_option maxHeartbeats 2000000 in
theorem ww_l {n : Nat} {P2 PR : PI} (hT : rTables n P2 PR) {d p : Nat} (hd : 1 ≤ d ∧ d ≤ 3) {x : Int64} {used : Int32} {la : Nat} (hla : la < 16) (hu : uOn used d p) (rc : PI → PL → PI → Int32 → Int64 → Int32 → Option (PI × PL)) (Q : Nat → Option (Nat × Nat × Int64) → Prop)
    (hskip : ∀ e b, e < 16 → (usd d p e = true ∨ hop P2 x la e = none) → Q e b → Q (e + 1) b)
    (hwalk : ∀ e b y P L, e < 16 → usd d p e = false → hop P2 x la e = some y → Q e b → bC P L b → (∀ k, k < d + 1 → P 4 k = nI (dl (d + 1) (16 * p + e) k)) → ∃ (P' : PI) (L' : PL) (b' : Option (Nat × Nat × Int64)), rc P L P2 (nI (d + 1)) y (used ||| ((1 : Int32) <<< (nI e &&& 31))) = some (P', L') ∧ bC P' L' b' ∧ Q (e + 1) b' ∧ frW (d + 1) P P') :
    ∀ (r e f : Nat) (P : PI) (L : PL) (b : Option (Nat × Nat × Int64)), e + r = 16 → r < f → Q e b → bC P L b → (∀ k, k < d → P 4 k = nI (dl d p k)) → ∃ (P' : PI) (L' : PL) (b' : Option (Nat × Nat × Int64)), f_Ways_walk_63 P2 (nI d) x used (nI la) rc f (nI e) P L = some (P', L') ∧ bC P' L' b' ∧ Q 16 b' ∧ frW d P P' := by
  intro r
  induction r with
  | zero =>
    intro e f P L b he hf hq hb hr
    obtain ⟨f, rfl⟩ : ∃ m, f = m + 1 := ⟨f - 1, by omega⟩
    have ee : e = 16 := by omega
    subst ee
    refine ⟨P, L, b, ?_, hb, hq, rfl, fun _ _ => rfl⟩
    show f_Ways_walk_63_b _ _ _ _ _ _ _ _ _ _ = _
    unfold f_Ways_walk_63_b
    rw [if_pos (by decide)]
  | succ r ih =>
    intro e f P L b he hf hq hb hr
    obtain ⟨f, rfl⟩ : ∃ m, f = m + 1 := ⟨f - 1, by omega⟩
    have e16 : e < 16 := by omega
    have go : (usd d p e = true ∨ hop P2 x la e = none) → f_Ways_walk_63_b P2 (nI d) x used (nI la) rc (f_Ways_walk_63 P2 (nI d) x used (nI la) rc f) (nI e) P L = f_Ways_walk_63 P2 (nI d) x used (nI la) rc f (nI (e + 1)) P L := by
      intro hs
      unfold f_Ways_walk_63_b
      rw [if_neg (nge (b := 16) (y := 16) (by omega) (by decide) rfl)]
      simp only [letsN, nI_1]
      by_cases u : usd d p e = true
      · have nb : ¬ (used >>> (nI e &&& 31)) &&& 1 = 0 := fun z => by
          have := (bs (by omega) used).mp z
          rw [hu e (by omega), u] at this
          cases this
        rw [if_neg nb]
      · have hn : hop P2 x la e = none := hs.resolve_left u
        have nb : (used >>> (nI e &&& 31)) &&& 1 = 0 := (bs (by omega) used).mpr (by rw [hu e (by omega)]; exact Bool.eq_false_iff.mpr u)
        rw [if_pos nb, has_c hla e16, bd1s, ifz]
        unfold hop at hn
        by_cases a : 1 ≤ (P2 2 (la * 16 + e)).toInt
        · rw [if_pos a] at hn ⊢
          by_cases v : (tn P2 la e x).toInt ≤ 1000000000000
          · rw [if_pos v] at hn; cases hn
          · rw [tb_turn hT hla e16 x a, bd1s, if_neg (fun z => v (Int64.le_iff_toInt_le.mp ((lg_cmp_le _ _).mp z)))]
        · rw [if_neg a]
    by_cases u : usd d p e = true
    · obtain ⟨P', L', b', k1, k2, k3, k4⟩ := ih (e + 1) f P L b (by omega) (by omega) (hskip e b e16 (Or.inl u) hq) hb hr
      exact ⟨P', L', b', (go (Or.inl u)).trans k1, k2, k3, k4⟩
    · cases hh : hop P2 x la e with
      | none =>
        obtain ⟨P', L', b', k1, k2, k3, k4⟩ := ih (e + 1) f P L b (by omega) (by omega) (hskip e b e16 (Or.inr hh) hq) hb hr
        exact ⟨P', L', b', (go (Or.inr hh)).trans k1, k2, k3, k4⟩
      | some y =>
        have u' : usd d p e = false := Bool.eq_false_iff.mpr u
        obtain ⟨P1, L1, b1, m1, m2, m3, m4⟩ := hwalk e b y (mb_u2 P 4 d (nI e)) L e16 u' hh hq (bC_u4 d (nI e) hb) (fun k hk => by
          rw [u2_ap, dl_up e16]
          by_cases ek : k = d
          · rw [if_pos ⟨rfl, ek⟩, if_pos ek]
          · rw [if_neg (fun z => ek z.2), if_neg ek]
            exact hr k (by omega))
        have r1 : ∀ k, k < d → P1 4 k = P 4 k := fun k hk => by rw [m4.2 k (by omega), u2_ap, if_neg (by omega)]
        obtain ⟨P', L', b', k1, k2, k3, k4⟩ := ih (e + 1) f P1 L1 b1 (by omega) (by omega) m3 m2 (fun k hk => by rw [r1 k hk]; exact hr k hk)
        refine ⟨P', L', b', ?_, k2, k3, ?_, fun k hk => by rw [k4.2 k hk, r1 k hk]⟩
        · show f_Ways_walk_63_b P2 (nI d) x used (nI la) rc (f_Ways_walk_63 P2 (nI d) x used (nI la) rc f) (nI e) P L = _
          unfold f_Ways_walk_63_b
          rw [if_neg (nge (b := 16) (y := 16) (by omega) (by decide) rfl)]
          have nb : (used >>> (nI e &&& 31)) &&& 1 = 0 := (bs (by omega) used).mpr (by rw [hu e (by omega)]; exact u')
          unfold hop at hh
          by_cases a : 1 ≤ (P2 2 (la * 16 + e)).toInt
          · rw [if_pos a] at hh
            by_cases v : (tn P2 la e x).toInt ≤ 1000000000000
            · rw [if_pos v] at hh
              cases hh
              rw [if_pos nb, has_c hla e16, bd1s, ifz, if_pos a, tb_turn hT hla e16 x a, bd1s, letsN, if_pos ((lg_cmp_le _ _).mpr (Int64.le_iff_toInt_le.mpr v)), chkN (show d < 4 by omega) (by decide), letsN, nI_clamp (by omega), nI_1, m1, bd2s, letsN, nI_1]
              exact k1
            · rw [if_neg v] at hh; cases hh
          · rw [if_neg a] at hh; cases hh
        · rw [k4.1, m4.1, u2_ap, if_neg (by omega)]
