/-! best: which row is the best -/
def tn (P : PI) (i j : Nat) (x : Int64) : Int64 := trn (P 1 (i * 16 + j)) (P 2 (i * 16 + j)) (P 3 (i * 16 + j)) x
def hop (P : PI) (x : Int64) (i j : Nat) : Option Int64 := if 1 ≤ (P 2 (i * 16 + j)).toInt then (if (tn P i j x).toInt ≤ 1000000000000 then some (tn P i j x) else none) else none
def pv2 (P : PI) (c : Nat) : Option Int64 := if c / 16 = c % 16 then none else hop P 1000000 (c / 16) (c % 16)
def pv3 (P : PI) (c : Nat) : Option Int64 := (pv2 P (c / 16)).bind (fun x => if c % 16 = c / 256 ∨ c % 16 = c / 16 % 16 then none else hop P x (c / 16 % 16) (c % 16))
def pv4 (P : PI) (c : Nat) : Option Int64 := (pv3 P (c / 16)).bind (fun x => if c % 16 = c / 4096 ∨ c % 16 = c / 256 % 16 ∨ c % 16 = c / 16 % 16 then none else hop P x (c / 16 % 16) (c % 16))
def Wv (P : PI) (m c : Nat) : Option Int64 := if m = 2 then (pv2 P c).bind (fun x => hop P x (c % 16) (c / 16)) else if m = 3 then (pv3 P c).bind (fun x => hop P x (c % 16) (c / 256)) else if m = 4 then (pv4 P c).bind (fun x => hop P x (c % 16) (c / 4096)) else none
def cand (m c : Nat) : Prop := (m = 2 ∧ c < 256) ∨ (m = 3 ∧ c < 4096) ∨ (m = 4 ∧ c < 65536)
def key (m c : Nat) : Nat := if m = 2 then 1280 * c + 2 else if m = 3 then 80 * c + 3 else 5 * c + 4
def opt (W : Nat → Nat → Option Int64) (S : Nat → Nat → Prop) : Option (Nat × Nat × Int64) → Prop
  | none => ∀ m c, S m c → W m c = none
  | some (m, c, v) => S m c ∧ W m c = some v ∧ ∀ m' c' v', S m' c' → W m' c' = some v' → v'.toInt < v.toInt ∨ (v'.toInt = v.toInt ∧ (m < m' ∨ (m = m' ∧ c ≤ c')))
theorem opt_uni {W : Nat → Nat → Option Int64} {S : Nat → Nat → Prop} : ∀ {b b2 : Option (Nat × Nat × Int64)}, opt W S b → opt W S b2 → b = b2
  | none, none, _, _ => rfl
  | none, some (m, c, v), h, h2 => by
    have := h m c h2.1
    rw [h2.2.1] at this
    cases this
  | some (m, c, v), none, h, h2 => by
    have := h2 m c h.1
    rw [h.2.1] at this
    cases this
  | some (m, c, v), some (m2, c2, v2), h, h2 => by
    have a := h.2.2 m2 c2 v2 h2.1 h2.2.1
    have b := h2.2.2 m c v h.1 h.2.1
    have e1 : m = m2 := by omega
    have e2 : c = c2 := by omega
    subst e1 e2
    have e3 := h.2.1.symm.trans h2.2.1
    cases e3
    rfl
theorem opt_skip {W : Nat → Nat → Option Int64} {S S2 : Nat → Nat → Prop} (h1 : ∀ m c, S m c → S2 m c) (h2 : ∀ m c, S2 m c → S m c ∨ W m c = none) : ∀ {b : Option (Nat × Nat × Int64)}, opt W S b → opt W S2 b
  | none, h => fun m c hs => by
    rcases h2 m c hs with a | a
    · exact h m c a
    · exact a
  | some (m, c, v), h => by
    refine ⟨h1 m c h.1, h.2.1, fun m' c' v' hs hw => ?_⟩
    rcases h2 m' c' hs with a | a
    · exact h.2.2 m' c' v' a hw
    · rw [a] at hw; cases hw
def updC (b : Option (Nat × Nat × Int64)) (m c : Nat) (v : Int64) : Option (Nat × Nat × Int64) :=
  match b with
  | none => some (m, c, v)
  | some (m0, c0, v0) => if v0.toInt < v.toInt ∨ (v.toInt = v0.toInt ∧ m < m0) then some (m, c, v) else some (m0, c0, v0)
theorem opt_add {W : Nat → Nat → Option Int64} {S S2 : Nat → Nat → Prop} {m c : Nat} {v : Int64} (hw : W m c = some v) (h1 : ∀ m' c', S m' c' → S2 m' c') (h2 : ∀ m' c', S2 m' c' → S m' c' ∨ (m' = m ∧ c' = c)) (h3 : S2 m c) (h4 : ∀ c', S m c' → c' < c) : ∀ {b : Option (Nat × Nat × Int64)}, opt W S b → opt W S2 (updC b m c v)
  | none, h => by
    refine ⟨h3, hw, fun m' c' v' hs hw' => ?_⟩
    rcases h2 m' c' hs with a | ⟨rfl, rfl⟩
    · rw [h m' c' a] at hw'; cases hw'
    · rw [hw] at hw'; cases hw'
      exact Or.inr ⟨rfl, Or.inr ⟨rfl, Nat.le_refl _⟩⟩
  | some (m0, c0, v0), h => by
    unfold updC
    obtain ⟨s0, w0, o0⟩ := h
    by_cases b : v0.toInt < v.toInt ∨ (v.toInt = v0.toInt ∧ m < m0)
    · simp only [if_pos b]
      refine ⟨h3, hw, fun m' c' v' hs hw' => ?_⟩
      rcases h2 m' c' hs with a | ⟨rfl, rfl⟩
      · have := o0 m' c' v' a hw'
        omega
      · rw [hw] at hw'; cases hw'
        exact Or.inr ⟨rfl, Or.inr ⟨rfl, Nat.le_refl _⟩⟩
    · simp only [if_neg b]
      refine ⟨h1 _ _ s0, w0, fun m' c' v' hs hw' => ?_⟩
      rcases h2 m' c' hs with a | ⟨e1, e2⟩
      · exact o0 m' c' v' a hw'
      · subst e1 e2
        rw [hw] at hw'; cases hw'
        by_cases e : m0 = m'
        · subst e
          have := h4 c0 s0
          omega
        · omega
def SK (t m c : Nat) : Prop := cand m c ∧ key m c < t
theorem key_cases {m c : Nat} (h : cand m c) : (m = 2 ∧ c < 256 ∧ key m c = 1280 * c + 2) ∨ (m = 3 ∧ c < 4096 ∧ key m c = 80 * c + 3) ∨ (m = 4 ∧ c < 65536 ∧ key m c = 5 * c + 4) := by
  rcases h with ⟨rfl, h⟩ | ⟨rfl, h⟩ | ⟨rfl, h⟩
  · exact Or.inl ⟨rfl, h, rfl⟩
  · exact Or.inr (Or.inl ⟨rfl, h, rfl⟩)
  · exact Or.inr (Or.inr ⟨rfl, h, rfl⟩)
def updO (o : Option Int64) (b : Option (Nat × Nat × Int64)) (m c : Nat) : Option (Nat × Nat × Int64) :=
  match o with
  | none => b
  | some v => updC b m c v
theorem opt_cl {W : Nat → Nat → Option Int64} {m c : Nat} (hc : cand m c) {b : Option (Nat × Nat × Int64)} (h : opt W (SK (key m c)) b) : opt W (SK (key m c + 1)) (updO (W m c) b m c) := by
  have one : ∀ m' c', SK (key m c + 1) m' c' → SK (key m c) m' c' ∨ (m' = m ∧ c' = c) := by
    intro m' c' hs
    have a := key_cases hc
    have d := key_cases hs.1
    have k := hs.2
    by_cases l : key m' c' < key m c
    · exact Or.inl ⟨hs.1, l⟩
    · right
      omega
  have mono : ∀ m' c', SK (key m c) m' c' → SK (key m c + 1) m' c' := fun m' c' hs => ⟨hs.1, by have := hs.2; omega⟩
  cases e : W m c with
  | none =>
    refine opt_skip mono (fun m' c' hs => ?_) h
    rcases one m' c' hs with a | ⟨rfl, rfl⟩
    · exact Or.inl a
    · exact Or.inr e
  | some v =>
    refine opt_add e mono one ⟨hc, by omega⟩ (fun c' hs => ?_) h
    have a := key_cases hc
    have d := key_cases hs.1
    have k := hs.2
    omega
/-- a step of the threshold over rows that lead nowhere -/
theorem opt_gap {W : Nat → Nat → Option Int64} {t t2 : Nat} (ht : t ≤ t2) (hn : ∀ m c, cand m c → t ≤ key m c → key m c < t2 → W m c = none) {b : Option (Nat × Nat × Int64)} (h : opt W (SK t) b) : opt W (SK t2) b := by
  refine opt_skip (fun m c hs => ⟨hs.1, by have := hs.2; omega⟩) (fun m c hs => ?_) h
  by_cases l : key m c < t
  · exact Or.inl ⟨hs.1, l⟩
  · exact Or.inr (hn m c hs.1 (by omega) hs.2)
/-- the places of a row -/
def dl : Nat → Nat → Nat → Nat
  | 0, _, _ => 0
  | m + 1, c, k => if k = m then c % 16 else dl m (c / 16) k
theorem dl_lt : ∀ m c k, dl m c k < 16
  | 0, _, _ => by show 0 < 16; decide
  | m + 1, c, k => by
    unfold dl
    split
    · omega
    · exact dl_lt m _ _
theorem dl_up {m p e k : Nat} (he : e < 16) : dl (m + 1) (16 * p + e) k = if k = m then e else dl m p k := by
  show (if k = m then (16 * p + e) % 16 else dl m ((16 * p + e) / 16) k) = _
  rw [show (16 * p + e) % 16 = e by omega, show (16 * p + e) / 16 = p by omega]
theorem trn_nn {n j : Nat} {P PR : PI} (h : rTables n P PR) (hj : j < 256) {x : Int64} (hx : 0 ≤ x.toInt) (hx2 : x.toInt ≤ 1000000000000) : 0 ≤ (trn (P 1 j) (P 2 j) (P 3 j) x).toInt ∨ ¬ 1 ≤ (P 2 j).toInt := by
  obtain ⟨-, -, e3⟩ := h.2 j hj
  rcases e3 with ⟨z1, z2⟩ | ⟨z1, z2, z3, z4, z5, -⟩
  · right; rw [z2]; decide
  · left
    unfold trn
    have m0 : 0 ≤ x.toInt * (P 1 j).toInt := Int.mul_nonneg hx (by omega)
    have m1 : x.toInt * (P 1 j).toInt ≤ 1000000000000 * 10000 := Int.mul_le_mul hx2 z2 (by omega) (by decide)
    have e1 : (x * (P 1 j).toInt64).toInt = x.toInt * (P 1 j).toInt := by rw [fb_mulL (by rw [tt]; omega) (by rw [tt]; omega), tt]
    have e2 : (x * (P 1 j).toInt64 / (P 2 j).toInt64).toInt = (x.toInt * (P 1 j).toInt).tdiv (P 2 j).toInt := by rw [divp z3, e1]
    have gp := grain_pos z5
    have q0 : 0 ≤ (x.toInt * (P 1 j).toInt).tdiv (P 2 j).toInt := Int.tdiv_nonneg m0 (by omega)
    have q1 : (x.toInt * (P 1 j).toInt).tdiv (P 2 j).toInt ≤ x.toInt * (P 1 j).toInt := by
      rw [Int.tdiv_eq_ediv_of_nonneg m0]
      exact Int.ediv_le_self _ m0
    generalize hv : x * (P 1 j).toInt64 / (P 2 j).toInt64 = v at *
    have v0 : 0 ≤ v.toInt := by rw [e2]; exact q0
    have v1 : v.toInt ≤ 10000000000000000 := by rw [e2]; omega
    have e4 : (v / (P 3 j).toInt64).toInt = v.toInt.tdiv (P 3 j).toInt := divp gp
    have d0 : 0 ≤ v.toInt.tdiv (P 3 j).toInt := Int.tdiv_nonneg v0 (by omega)
    have d1 : v.toInt.tdiv (P 3 j).toInt * (P 3 j).toInt ≤ v.toInt := by
      rw [Int.tdiv_eq_ediv_of_nonneg v0]
      exact Int.ediv_mul_le _ (by omega)
    have d2 : 0 ≤ v.toInt.tdiv (P 3 j).toInt * (P 3 j).toInt := Int.mul_nonneg d0 (by omega)
    have e5 : (v / (P 3 j).toInt64 * (P 3 j).toInt64).toInt = v.toInt.tdiv (P 3 j).toInt * (P 3 j).toInt := by rw [fb_mulL (by rw [tt, e4]; omega) (by rw [tt, e4]; omega), tt, e4]
    have e6 : (v - v / (P 3 j).toInt64 * (P 3 j).toInt64).toInt = v.toInt - v.toInt.tdiv (P 3 j).toInt * (P 3 j).toInt := by rw [fb_subL (by rw [e5]; omega) (by rw [e5]; omega), e5]
    rw [fb_subL (by rw [e6]; omega) (by rw [e6]; omega), e6]
    omega
theorem hop_ok {n : Nat} {P PR : PI} (h : rTables n P PR) {i j : Nat} (hi : i < 16) (hj : j < 16) {x y : Int64} (hx : 0 ≤ x.toInt ∧ x.toInt ≤ 1000000000000) (e : hop P x i j = some y) : (0 ≤ y.toInt ∧ y.toInt ≤ 1000000000000) ∧ i < n ∧ j < n ∧ i ≠ j := by
  unfold hop at e
  by_cases a : 1 ≤ (P 2 (i * 16 + j)).toInt
  · rw [if_pos a] at e
    by_cases b : (tn P i j x).toInt ≤ 1000000000000
    · rw [if_pos b] at e
      cases e
      refine ⟨⟨?_, b⟩, ?_⟩
      · rcases trn_nn h (show i * 16 + j < 256 by omega) hx.1 hx.2 with z | z
        · exact z
        · exact absurd a z
      · obtain ⟨-, -, e3⟩ := h.2 (i * 16 + j) (by omega)
        rcases e3 with ⟨z1, z2⟩ | ⟨-, -, -, -, -, z6, z7, z8⟩
        · rw [z2] at a; exact absurd a (by decide)
        · rw [show (i * 16 + j) / 16 = i by omega] at z6 z8
          rw [show (i * 16 + j) % 16 = j by omega] at z7 z8
          exact ⟨z6, z7, z8⟩
    · rw [if_neg b] at e; cases e
  · rw [if_neg a] at e; cases e
