/-! earth: the common divisor -/
theorem lNt {n : Nat} (h : n < 2 ^ 63) : (lN n).toInt = (n : Int) := lg_ofNat_toInt (by omega)
theorem lN_of {x : Int64} (h : 0 ≤ x.toInt) : ∃ a : Nat, x = lN a ∧ (a : Int) = x.toInt := by
  have r := fb_rngL x
  refine ⟨x.toInt.toNat, ?_, by omega⟩
  apply Int64.toInt_inj.mp
  rw [lNt (by omega)]
  omega
theorem lN_div {a b : Nat} (ha : a < 2 ^ 63) (hb : b < 2 ^ 63) (b0 : 0 < b) : lN a / lN b = lN (a / b) := by
  have n0 : lN b ≠ -1 := fun e => by
    have := congrArg Int64.toInt e
    rw [lNt hb] at this
    have : (b : Int) = -1 := this
    omega
  apply Int64.toInt_inj.mp
  have q : a / b < 2 ^ 63 := Nat.lt_of_le_of_lt (Nat.div_le_self a b) ha
  rw [Int64.toInt_div_of_ne_right _ _ n0, lNt ha, lNt hb, lNt q]
  rfl
theorem lN_rem {a b : Nat} (ha : a < 2 ^ 63) (hb : b < 2 ^ 63) (b0 : 0 < b) : lN a - lN a / lN b * lN b = lN (a % b) := by
  rw [lN_div ha hb b0, lN_mul, lN_sub (Nat.div_mul_le_self a b), Nat.mod_eq_sub_div_mul]
theorem lN_z {b : Nat} (hb : b < 2 ^ 63) : lN b = 0 ↔ b = 0 := by
  constructor
  · intro e
    have := congrArg Int64.toInt e
    rw [lNt hb] at this
    have : (b : Int) = 0 := this
    omega
  · rintro rfl; rfl
theorem lg_le0 {b : Nat} (hb : b < 2 ^ 63) : lg_cmp (lN b) 0 ≤ 0 ↔ b = 0 := by
  rw [lg_cmp_le, Int64.le_iff_toInt_le, lNt hb]
  show (b : Int) ≤ 0 ↔ _
  omega
theorem cdC0 {a i n : Nat} (hi : i ≤ 99) : f_Ground_commonDivisor_9 (n + 1) (lN a) (lN 0) (nI i) = some (lN a) := by
  show f_Ground_commonDivisor_9_b _ _ _ _ = _
  unfold f_Ground_commonDivisor_9_b
  rw [if_neg (nge (b := 100) (y := 100) (by omega) (by decide) rfl), if_pos ((lg_le0 (by decide)).mpr rfl)]
theorem cdCs {a b i n : Nat} (ha : a < 2 ^ 63) (hb : b < 2 ^ 63) (b0 : 0 < b) (hi : i ≤ 99) : f_Ground_commonDivisor_9 (n + 1) (lN a) (lN b) (nI i) = f_Ground_commonDivisor_9 n (lN b) (lN (a % b)) (nI (i + 1)) := by
  show f_Ground_commonDivisor_9_b (f_Ground_commonDivisor_9 n) _ _ _ = _
  unfold f_Ground_commonDivisor_9_b mb_dvl
  rw [if_neg (nge (b := 100) (y := 100) (by omega) (by decide) rfl), if_neg (fun z => by have := (lg_le0 hb).mp z; omega), if_neg (fun z => by have := (lN_z hb).mp z; omega)]
  simp only [letsN, lN_rem ha hb b0, nI_1]
theorem cdR0 {a n : Nat} : f_Ref_common_6 (n + 1) (lN a) (lN 0) = some (lN a) := by
  show f_Ref_common_6_b _ _ _ = _
  unfold f_Ref_common_6_b
  rw [if_pos ((lg_cmp_eq (lN 0) 0).mpr rfl)]
theorem cdRs {a b n : Nat} (ha : a < 2 ^ 63) (hb : b < 2 ^ 63) (b0 : 0 < b) : f_Ref_common_6 (n + 1) (lN a) (lN b) = f_Ref_common_6 n (lN b) (lN (a % b)) := by
  show f_Ref_common_6_b (f_Ref_common_6 n) _ _ = _
  unfold f_Ref_common_6_b mb_dvl
  rw [if_neg (fun z => by have := (lN_z hb).mp ((lg_cmp_eq _ _).mp z); omega), if_neg (fun z => by have := (lN_z hb).mp z; omega)]
  simp only [letsN, lN_rem ha hb b0]
theorem half {b r k : Nat} (r0 : 0 < r) (hr : r < b) (hb : b < 2 ^ (k + 1)) : b % r < 2 ^ k := by
  have e := Nat.div_add_mod b r
  have l := Nat.mod_lt b r0
  have q : 1 ≤ b / r := Nat.div_pos (Nat.le_of_lt hr) r0
  have m : r * 1 ≤ r * (b / r) := Nat.mul_le_mul_left r q
  rw [Nat.pow_succ] at hb
  omega
theorem cdC : ∀ (k a b i n : Nat), b < 2 ^ k → a < 2 ^ 63 → b < 2 ^ 63 → i + 2 * k + 1 ≤ 100 → 2 * k < n → f_Ground_commonDivisor_9 n (lN a) (lN b) (nI i) = some (lN (Nat.gcd b a)) := by
  intro k
  induction k with
  | zero =>
    intro a b i n h ha hb hi hn
    obtain ⟨n, rfl⟩ : ∃ m, n = m + 1 := ⟨n - 1, by omega⟩
    have : b = 0 := by simp at h; omega
    subst this
    rw [cdC0 (by omega), Nat.gcd_zero_left]
  | succ k ih =>
    intro a b i n h ha hb hi hn
    obtain ⟨n, rfl⟩ : ∃ m, n = m + 2 := ⟨n - 2, by omega⟩
    by_cases b0 : b = 0
    · subst b0
      rw [cdC0 (by omega), Nat.gcd_zero_left]
    · have l := Nat.mod_lt a (show 0 < b by omega)
      rw [cdCs ha hb (by omega) (by omega), Nat.gcd_rec]
      by_cases r0 : a % b = 0
      · rw [r0, cdC0 (by omega), Nat.gcd_zero_left]
      · have l2 := Nat.mod_lt b (show 0 < a % b by omega)
        rw [cdCs hb (by omega) (by omega) (by omega), Nat.gcd_rec]
        exact ih _ _ _ _ (half (by omega) l h) (by omega) (by omega) (by omega) (by omega)
theorem cdR : ∀ (k a b n : Nat), b < 2 ^ k → a < 2 ^ 63 → b < 2 ^ 63 → 2 * k < n → f_Ref_common_6 n (lN a) (lN b) = some (lN (Nat.gcd b a)) := by
  intro k
  induction k with
  | zero =>
    intro a b n h ha hb hn
    obtain ⟨n, rfl⟩ : ∃ m, n = m + 1 := ⟨n - 1, by omega⟩
    have : b = 0 := by simp at h; omega
    subst this
    rw [cdR0, Nat.gcd_zero_left]
  | succ k ih =>
    intro a b n h ha hb hn
    obtain ⟨n, rfl⟩ : ∃ m, n = m + 2 := ⟨n - 2, by omega⟩
    by_cases b0 : b = 0
    · subst b0
      rw [cdR0, Nat.gcd_zero_left]
    · have l := Nat.mod_lt a (show 0 < b by omega)
      rw [cdRs ha hb (by omega), Nat.gcd_rec]
      by_cases r0 : a % b = 0
      · rw [r0, cdR0, Nat.gcd_zero_left]
      · have l2 := Nat.mod_lt b (show 0 < a % b by omega)
        rw [cdRs hb (by omega) (by omega), Nat.gcd_rec]
        exact ih _ _ _ (half (by omega) l h) (by omega) (by omega) (by omega)
theorem gcd_c {x y : Int64} (hx : 0 ≤ x.toInt) (hy : 1 ≤ y.toInt) (hy2 : y.toInt < 2 ^ 48) : ∃ g : Int64, f_Ground_commonDivisor x y = some g ∧ f_Ref_common y x = some g ∧ 1 ≤ g.toInt := by
  obtain ⟨a, ea, ia⟩ := lN_of hx
  obtain ⟨b, eb, ib⟩ := lN_of (x := y) (by omega)
  have r := fb_rngL x
  have g0 : 0 < Nat.gcd b a := Nat.gcd_pos_of_pos_left a (by omega)
  have g1 : Nat.gcd b a ≤ b := Nat.gcd_le_left a (by omega)
  refine ⟨lN (Nat.gcd b a), ?_, ?_, by rw [lNt (by omega)]; omega⟩
  · unfold f_Ground_commonDivisor
    rw [letsN, letsN, letsN, ea, eb]
    have := cdC 48 a b 0 mb_fu (by omega) (by omega) (by omega) (by decide) (by unfold mb_fu; omega)
    rw [nI_0] at this
    exact this
  · unfold f_Ref_common
    rw [letsN, letsN, ea, eb, Nat.gcd_comm]
    exact cdR 63 b a mb_fu (by omega) (by omega) (by omega) (by unfold mb_fu; omega)
/-- the sums and the outermost -/
def sY (f : Nat → Int64) (b : Nat → Bool) : Nat → Int64
  | 0 => 0
  | k + 1 => sY f b k + (if b k = true then f k else 0)
def mA (Y A : Nat → Int64) : Nat → Nat
  | 0 => 0
  | k + 1 => if (Y k * A (mA Y A k)).toInt ≤ (Y (mA Y A k) * A k).toInt then mA Y A k else k
def lA (Y A : Nat → Int64) : Nat → Nat
  | 0 => 0
  | k + 1 => if (Y (lA Y A k) * A k).toInt ≤ (Y k * A (lA Y A k)).toInt then lA Y A k else k
theorem mA_lt (Y A : Nat → Int64) : ∀ k, mA Y A k ≤ k ∧ (0 < k → mA Y A k < k)
  | 0 => ⟨Nat.le_refl _, fun h => absurd h (by decide)⟩
  | k + 1 => by
    have := (mA_lt Y A k).1
    unfold mA
    split <;> constructor <;> omega
theorem lA_lt (Y A : Nat → Int64) : ∀ k, lA Y A k ≤ k ∧ (0 < k → lA Y A k < k)
  | 0 => ⟨Nat.le_refl _, fun h => absurd h (by decide)⟩
  | k + 1 => by
    have := (lA_lt Y A k).1
    unfold lA
    split <;> constructor <;> omega
theorem out_ord (Y A : Nat → Int64) : ∀ k, (Y (lA Y A k) * A (mA Y A k)).toInt ≤ (Y (mA Y A k) * A (lA Y A k)).toInt
  | 0 => Int.le_refl _
  | k + 1 => by
    have ih := out_ord Y A k
    simp only [lA, mA]
    split
    · split
      · exact ih
      · omega
    · split
      · omega
      · omega
theorem sY_rng {f : Nat → Int64} {b : Nat → Bool} {m M : Nat} (hM : M ≤ 1000000) : ∀ k, k ≤ 12 → (∀ j, j < k → (m : Int) ≤ (f j).toInt ∧ (f j).toInt ≤ M) → 0 ≤ (sY f b k).toInt ∧ (sY f b k).toInt ≤ k * M ∧ ((∀ j, j < k → b j = true) → k * (m : Int) ≤ (sY f b k).toInt)
  | 0, _, _ => ⟨Int.le_refl _, by show (0 : Int) ≤ _; omega, fun _ => by show _ ≤ (0 : Int); omega⟩
  | k + 1, hk, h => by
    obtain ⟨i1, i2, i3⟩ := sY_rng (b := b) hM k (by omega) (fun j hj => h j (by omega))
    have hb := h k (by omega)
    have kM : (k : Int) * M ≤ 12 * 1000000 := Int.mul_le_mul (by omega) (by omega) (by omega) (by decide)
    have e1 : ((k + 1 : Nat) : Int) * (M : Int) = k * M + M := by rw [Int.natCast_add, Int.add_mul]; omega
    have e2 : ((k + 1 : Nat) : Int) * (m : Int) = k * m + m := by rw [Int.natCast_add, Int.add_mul]; omega
    unfold sY
    split
    · rw [fb_addL (by omega) (by omega)]
      refine ⟨by omega, by omega, fun z => ?_⟩
      have := i3 (fun j hj => z j (by omega))
      omega
    · rename_i nb
      rw [fb_addL (by simp; omega) (by simp; omega)]
      refine ⟨by simp; omega, by rw [show (0 : Int64).toInt = 0 from rfl]; omega, fun z => absurd (z k (by omega)) nb⟩
