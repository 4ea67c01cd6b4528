/-! reading a script: numbers -/
def dg (T : Nat → Int32) (len p : Nat) : Bool := decide (p < len ∧ 48 ≤ (T p).toInt ∧ (T p).toInt ≤ 57)
def cnt (T : Nat → Int32) (len : Nat) : Nat → Nat → Nat
  | _, 0 => 0
  | p, c + 1 => if dg T len p = true then cnt T len (p + 1) c + 1 else 0
def vl (T : Nat → Int32) : Nat → Nat → Int32 → Int32
  | 0, _, v => v
  | k + 1, p, v => vl T k (p + 1) (v * 10 + T p - 48)
def txC (T : Nat → Int32) (len : Nat) (P : PI) : Prop := P 0 3 = nI len ∧ ∀ j, j < 300 → P 1 j = T j
def txR (T : Nat → Int32) (len : Nat) (P : PI) : Prop := P 0 11 = nI len ∧ ∀ j, j < 300 → P 13 j = T j
theorem cnt_le (T : Nat → Int32) (len : Nat) : ∀ c p, cnt T len p c ≤ c
  | 0, _ => Nat.le_refl _
  | c + 1, p => by
    unfold cnt
    have := cnt_le T len c (p + 1)
    split <;> omega
theorem cnt_in (T : Nat → Int32) (len : Nat) : ∀ c p, p ≤ len → p + cnt T len p c ≤ len
  | 0, _, h => h
  | c + 1, p, h => by
    unfold cnt
    split
    · rename_i e
      unfold dg at e
      rw [decide_eq_true_eq] at e
      have := cnt_in T len c (p + 1) (by omega)
      omega
    · omega
theorem cnt_last (T : Nat → Int32) (len : Nat) : ∀ c p, cnt T len p (c + 1) = if cnt T len p c = c ∧ dg T len (p + c) = true then c + 1 else cnt T len p c
  | 0, p => by
    show (if dg T len p = true then 0 + 1 else 0) = if (0 = 0 ∧ dg T len p = true) then 0 + 1 else 0
    simp only [true_and]
  | c + 1, p => by
    have ih := cnt_last T len c (p + 1)
    rw [cnt, ih]
    by_cases e : dg T len p = true
    · rw [if_pos e]
      have e2 : cnt T len p (c + 1) = cnt T len (p + 1) c + 1 := by rw [cnt, if_pos e]
      rw [e2, show p + 1 + c = p + (c + 1) by omega]
      by_cases h : cnt T len (p + 1) c = c ∧ dg T len (p + (c + 1)) = true
      · rw [if_pos h, if_pos ⟨by omega, h.2⟩]
      · rw [if_neg h, if_neg (fun z => h ⟨by omega, z.2⟩)]
    · have e2 : cnt T len p (c + 1) = 0 := by rw [cnt, if_neg e]
      rw [if_neg e, e2, if_neg (fun z => absurd z.1 (by omega))]
theorem byteAt_c {T : Nat → Int32} {len : Nat} {P : PI} (hl : len ≤ 300) (h : txC T len P) {p : Nat} (hp : p < 2 ^ 31) : f_Script_byteAt P (nI p) = some (if p < len then T p else -1) := by
  unfold f_Script_byteAt
  rw [if_neg (nI_pos hp), h.1]
  by_cases q : p < len
  · rw [if_neg (nI_ge q (by omega)), chkN (show p < 300 by omega) (by decide), nI_clamp hp, h.2 p (by omega), if_pos q]
  · rw [if_pos (nI_le (by omega) hp), if_neg q]
theorem rn_l {T : Nat → Int32} {len : Nat} {P : PI} (hl : len ≤ 300) (h : txC T len P) {p : Nat} (hp : p ≤ 300) (K : Int32 → Int32 → Option (Int32 × PI)) : ∀ (r i n : Nat) (v : Int32), i + r = 4 → r < n → f_Script_readNumber_8 P (nI p) K K n v (nI i) (nI i) = K (vl T (cnt T len (p + i) r) (p + i) v) (nI (i + cnt T len (p + i) r)) := by
  intro r
  induction r with
  | zero =>
    intro i n v e hn
    obtain ⟨n, rfl⟩ : ∃ m, n = m + 1 := ⟨n - 1, by omega⟩
    have ei : i = 4 := by omega
    subst ei
    show f_Script_readNumber_8_b _ _ _ _ _ _ _ _ = _
    unfold f_Script_readNumber_8_b
    rw [if_pos (by decide)]
    rfl
  | succ r ih =>
    intro i n v e hn
    obtain ⟨n, rfl⟩ : ∃ m, n = m + 1 := ⟨n - 1, by omega⟩
    show f_Script_readNumber_8_b P _ _ _ (f_Script_readNumber_8 P (nI p) K K n) _ _ _ = _
    unfold f_Script_readNumber_8_b
    rw [if_neg (nge (b := 4) (y := 4) (by omega) (by decide) rfl), nI_add, byteAt_c hl h (by omega), bd1s, letsN]
    simp only [letsN, nI_1]
    by_cases d : dg T len (p + i) = true
    · have ec : cnt T len (p + i) (r + 1) = cnt T len (p + (i + 1)) r + 1 := by rw [cnt, if_pos d]; rfl
      have d2 := d
      unfold dg at d2
      rw [decide_eq_true_eq] at d2
      have a1 : ¬ T (p + i) < 48 := fun z => by
        have := Int32.lt_iff_toInt_lt.mp z
        have : (T (p + i)).toInt < 48 := this
        omega
      have a2 : T (p + i) ≤ 57 := Int32.le_iff_toInt_le.mpr (by show _ ≤ (57 : Int); omega)
      rw [if_pos d2.1, if_neg a1, if_pos a2, ih (i + 1) n _ (by omega) (by omega), ec]
      rw [show i + (cnt T len (p + (i + 1)) r + 1) = i + 1 + cnt T len (p + (i + 1)) r by omega]
      rfl
    · have ec : cnt T len (p + i) (r + 1) = 0 := by rw [cnt, if_neg d]
      rw [ec]
      show _ = K v (nI i)
      by_cases q : p + i < len
      · rw [if_pos q]
        by_cases a1 : T (p + i) < 48
        · rw [if_pos a1]
        · rw [if_neg a1]
          have a2 : ¬ T (p + i) ≤ 57 := fun z => d (by
            unfold dg
            rw [decide_eq_true_eq]
            have z2 : (T (p + i)).toInt ≤ 57 := Int32.le_iff_toInt_le.mp z
            have a3 : ¬ (T (p + i)).toInt < 48 := fun y => a1 (Int32.lt_iff_toInt_lt.mpr y)
            exact ⟨q, by omega, z2⟩)
          rw [if_neg a2]
      · rw [if_neg q, if_pos (by decide)]
theorem rn_c {T : Nat → Int32} {len : Nat} {P : PI} (hl : len ≤ 300) (h : txC T len P) {p w : Nat} (hp : p ≤ 300) (hw : w < 4) : f_Script_readNumber P (nI p) (nI w) = some (if cnt T len p 4 = 0 then -1 else nI (p + cnt T len p 4), mb_u2 P 2 w (vl T (cnt T len p 4) p 0)) := by
  unfold f_Script_readNumber
  have k := fun K => rn_l hl h hp K 4 0 mb_fu 0 (by decide) (fu_lt (by decide))
  rw [nI_0] at k
  simp only [Nat.zero_add, Nat.add_zero] at k
  rw [letsN, letsN, letsN, jnsN, jnsN]
  refine Eq.trans (k _) ?_
  have c4 := cnt_le T len 4 p
  rw [chkN hw (by decide), letsN, nI_clamp (by omega), nI_add]
  by_cases z : cnt T len p 4 = 0
  · rw [if_pos z, z, if_pos (by decide)]
  · rw [if_neg z, if_neg (nI_ne0 (by omega) (by omega))]
theorem uo_uo (P : PI) (s : Nat) (a b : Int32) : mb_uo (mb_uo P s a) s b = mb_uo P s b := by
  funext q j
  rw [uo_ap, uo_ap, uo_ap]
  split <;> rfl
theorem uo_self {P : PI} {s : Nat} {a : Int32} (h : P 0 s = a) : mb_uo P s a = P := by
  funext q j
  rw [uo_ap]
  split
  · rename_i e; rw [e.1, e.2, h]
  · rfl
set_option maxHeartbeats 1000000 in
theorem rr_l {T : Nat → Int32} {len : Nat} (hl : len ≤ 300) (K : Int32 → Int32 → PI → Option (Int32 × PI)) : ∀ (r i n p : Nat) (v : Int32) (P : PI), i + r = 5 → r < n → txR T len P → P 0 32 = nI p → p ≤ len → f_Ref_numbers_11 K n (nI i) v P = K (nI (i + cnt T len p r)) (vl T (cnt T len p r) p v) (mb_uo P 32 (nI (p + cnt T len p r))) := by
  intro r
  induction r with
  | zero =>
    intro i n p v P e hn h hp pl
    obtain ⟨n, rfl⟩ : ∃ m, n = m + 1 := ⟨n - 1, by omega⟩
    have ei : i = 5 := by omega
    subst ei
    show f_Ref_numbers_11_b _ _ _ _ _ = K (nI 5) v (mb_uo P 32 (nI p))
    unfold f_Ref_numbers_11_b
    rw [hp, h.1, uo_self hp]
    by_cases q : len ≤ p
    · rw [if_pos (nI_le q (by omega))]
    · rw [if_neg (nI_ge (by omega) (by omega)), chkN (show p < 300 by omega) (by decide), in_c, bd1s, ifz]
      split
      · rw [if_pos (by decide)]
      · rfl
  | succ r ih =>
    intro i n p v P e hn h hp pl
    obtain ⟨n, rfl⟩ : ∃ m, n = m + 1 := ⟨n - 1, by omega⟩
    show f_Ref_numbers_11_b K (f_Ref_numbers_11 K n) _ _ _ = _
    unfold f_Ref_numbers_11_b
    rw [hp, h.1]
    by_cases d : dg T len p = true
    · have ec : cnt T len p (r + 1) = cnt T len (p + 1) r + 1 := by rw [cnt, if_pos d]
      have d2 := d
      unfold dg at d2
      rw [decide_eq_true_eq] at d2
      have p300 : p < 300 := by omega
      rw [if_neg (nI_ge d2.1 (by omega)), chkN p300 (by decide), nI_clamp (by omega), h.2 p p300, in_c, bd1s, ifz, tt]
      rw [if_pos (show (48 : Int64).toInt ≤ (T p).toInt ∧ (T p).toInt ≤ (57 : Int64).toInt from d2.2), if_neg (nge (b := 5) (y := 5) (by omega) (by decide) rfl), chkN p300 (by decide)]
      simp only [letsN, nI_1]
      have h' : txR T len (mb_uo P 32 (nI (p + 1))) := ⟨by rw [uo_ap, if_neg (by decide)]; exact h.1, fun j hj => by rw [uo_ap, if_neg (by omega)]; exact h.2 j hj⟩
      rw [ih (i + 1) n (p + 1) _ _ (by omega) (by omega) h' (by rw [uo_ap, if_pos ⟨rfl, rfl⟩]) (by omega), ec, uo_uo]
      rw [show i + 1 + cnt T len (p + 1) r = i + (cnt T len (p + 1) r + 1) by omega, show p + 1 + cnt T len (p + 1) r = p + (cnt T len (p + 1) r + 1) by omega, Int32.mul_comm]
      rfl
    · have ec : cnt T len p (r + 1) = 0 := by rw [cnt, if_neg d]
      rw [ec]
      show _ = K (nI i) v (mb_uo P 32 (nI p))
      rw [uo_self hp]
      by_cases q : p < len
      · rw [if_neg (nI_ge q (by omega)), chkN (show p < 300 by omega) (by decide), nI_clamp (by omega), h.2 p (by omega), in_c, bd1s, ifz, tt, if_neg]
        intro z
        apply d
        unfold dg
        rw [decide_eq_true_eq]
        exact ⟨q, z⟩
      · rw [if_pos (nI_le (by omega) (by omega))]
theorem vl_rng (T : Nat → Int32) (len : Nat) : ∀ (k c p : Nat) (v : Int32), k ≤ cnt T len p c → 0 ≤ v.toInt → (v.toInt + 1) * 10 ^ k ≤ 10000 → 0 ≤ (vl T k p v).toInt ∧ (vl T k p v).toInt + 1 ≤ (v.toInt + 1) * 10 ^ k
  | 0, _, _, v, _, h0, _ => ⟨h0, by show v.toInt + 1 ≤ (v.toInt + 1) * 1; omega⟩
  | k + 1, c, p, v, hk, h0, hb => by
    obtain ⟨c, rfl⟩ : ∃ m, c = m + 1 := ⟨c - 1, by have := cnt_le T len c p; omega⟩
    rw [cnt] at hk
    have d : dg T len p = true := by
      by_cases d : dg T len p = true
      · exact d
      · rw [if_neg d] at hk; omega
    rw [if_pos d] at hk
    have d2 := d
    unfold dg at d2
    rw [decide_eq_true_eq] at d2
    have pw : (1 : Int) ≤ 10 ^ k := by
      have : (0 : Int) < 10 ^ k := Int.pow_pos (by decide)
      omega
    have e10 : ((10 : Int) ^ (k + 1)) = 10 ^ k * 10 := Int.pow_succ 10 k
    rw [e10, ← Int.mul_assoc] at hb ⊢
    have m1 : (v.toInt + 1) * 1 ≤ (v.toInt + 1) * 10 ^ k := Int.mul_le_mul_of_nonneg_left pw (by omega)
    have e1 : (v * 10).toInt = v.toInt * 10 := by rw [fb_mulI (by show _ ≤ v.toInt * 10; omega) (by show v.toInt * 10 < _; omega)]; rfl
    have e2 : (v * 10 + T p).toInt = v.toInt * 10 + (T p).toInt := by rw [fb_addI (by omega) (by omega), e1]
    have e3 : (v * 10 + T p - 48).toInt = v.toInt * 10 + (T p).toInt - 48 := by rw [fb_subI (by rw [e2]; show _ ≤ _ - (48 : Int); omega) (by rw [e2]; show _ - (48 : Int) < _; omega), e2]; rfl
    have m2 : ((v * 10 + T p - 48).toInt + 1) * 10 ^ k ≤ (v.toInt + 1) * 10 * 10 ^ k := Int.mul_le_mul_of_nonneg_right (by omega) (by omega)
    have e4 : (v.toInt + 1) * 10 * 10 ^ k = (v.toInt + 1) * 10 ^ k * 10 := by rw [Int.mul_assoc, Int.mul_assoc, Int.mul_comm (10 : Int)]
    have ih := vl_rng T len k c (p + 1) (v * 10 + T p - 48) (by omega) (by omega) (by omega)
    show 0 ≤ (vl T k (p + 1) (v * 10 + T p - 48)).toInt ∧ (vl T k (p + 1) (v * 10 + T p - 48)).toInt + 1 ≤ _
    omega
theorem vl_4 (T : Nat → Int32) (len p : Nat) : 0 ≤ (vl T (cnt T len p 4) p 0).toInt ∧ (vl T (cnt T len p 4) p 0).toInt ≤ 9999 := by
  have c4 := cnt_le T len 4 p
  have pw : ((0 : Int32).toInt + 1) * (10 : Int) ^ (cnt T len p 4) ≤ 10000 := by
    generalize cnt T len p 4 = k at c4
    rcases (show k = 0 ∨ k = 1 ∨ k = 2 ∨ k = 3 ∨ k = 4 by omega) with rfl | rfl | rfl | rfl | rfl <;> decide
  have := vl_rng T len (cnt T len p 4) 4 p 0 (Nat.le_refl _) (by decide) pw
  omega
