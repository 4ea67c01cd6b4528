/-! pure rows: how the mirrors' words are run -/
theorem bd1s {α β : Type} (x : β) (K : β → Option α) : mb_bd1 (some x) K = K x := rfl
theorem bd2s {α β γ : Type} (x : β) (y : γ) (K : β → γ → Option α) : mb_bd2 (some (x, y)) K = K x y := rfl
theorem bd3s {α β γ δ : Type} (x : β) (y : γ) (z : δ) (K : β → γ → δ → Option α) : mb_bd3 (some (x, y, z)) K = K x y z := rfl
theorem lets {α β : Type} (e : β) (K : β → Option α) : mb_let e K = K e := rfl
theorem jns {κ α : Type} (k : κ) (B : κ → Option α) : mb_jn k B = B k := rfl
theorem ifz {α : Type} {c : Prop} [Decidable c] (A B : α) : (if (if c then (1 : Int32) else 0) = 0 then A else B) = if c then B else A := by
  by_cases h : c
  · rw [if_pos h, if_pos h, if_neg (by decide)]
  · rw [if_neg h, if_neg h, if_pos rfl]
theorem zs {c : Prop} [Decidable c] {α : Type} (x : Option α) : mb_z (if c then (1 : Int32) else 0) x = x := by
  by_cases h : c
  · rw [if_pos h]; rfl
  · rw [if_neg h]; rfl
theorem beqn {q p : Nat} (h : ¬ q = p) : Nat.beq q p = false := by
  cases e : Nat.beq q p with
  | false => rfl
  | true => exact absurd (Nat.eq_of_beq_eq_true e) h
theorem u2_ap (P : PI) (p i : Nat) (v : Int32) (q j : Nat) : mb_u2 P p i v q j = if q = p ∧ j = i then v else P q j := by
  unfold mb_u2
  by_cases h : q = p
  · subst h
    rw [show Nat.beq q q = true from Nat.beq_refl q]
    show (if j = i then v else P q j) = _
    by_cases h2 : j = i
    · rw [if_pos h2, if_pos ⟨rfl, h2⟩]
    · rw [if_neg h2, if_neg (fun z => h2 z.2)]
  · rw [show Nat.beq q p = false from beqn h, if_neg (fun z => h z.1)]
    rfl
theorem uo_ap (P : PI) (s : Nat) (v : Int32) (q j : Nat) : mb_uo P s v q j = if q = 0 ∧ j = s then v else P q j := by
  unfold mb_uo
  by_cases h : q = 0
  · subst h
    by_cases h2 : j = s
    · subst h2
      rw [if_pos ⟨rfl, rfl⟩]
      show cond (Nat.beq j j) v _ = v
      rw [show Nat.beq j j = true from Nat.beq_refl j]; rfl
    · rw [if_neg (fun z => h2 z.2)]
      show cond (Nat.beq j s) v _ = _
      rw [show Nat.beq j s = false from beqn h2]; rfl
  · rw [show Nat.beq q 0 = false from beqn h, if_neg (fun z => h z.1)]
    rfl
theorem wi_c (x a b : Int32) : f_One_within x a b = some (if a.toInt ≤ x.toInt ∧ x.toInt ≤ b.toInt then 1 else 0) := by
  unfold f_One_within
  simp only [Int32.lt_iff_toInt_lt]
  (repeat' split) <;> first | rfl | omega
theorem in_c (x a b : Int64) : f_Ref_in x a b = some (if a.toInt ≤ x.toInt ∧ x.toInt ≤ b.toInt then 1 else 0) := by
  unfold f_Ref_in
  simp only [lg_cmp_lt, lg_cmp_gt, Int64.lt_iff_toInt_lt]
  (repeat' split) <;> first | rfl | omega
theorem told_c (P0 : PI) (x1 : Int32) : f_Units_told P0 x1 = some (if 0 ≤ x1.toInt ∧ x1.toInt < (P0 0 3).toInt then 1 else 0) := by
  unfold f_Units_told
  simp only [Int32.lt_iff_toInt_lt, Int32.le_iff_toInt_le, show (0 : Int32).toInt = 0 from rfl]
  (repeat' split) <;> first | rfl | omega
theorem tt (x : Int32) : x.toInt64.toInt = x.toInt := Int32.toInt_toInt64 x
theorem isU_c (PR : PI) (x1 : Int32) {n : Nat} (hn : n ≤ 16) (h : PR 0 0 = nI n) : f_Ref_isUnit PR x1 = some (if 0 ≤ x1.toInt ∧ x1.toInt < n then 1 else 0) := by
  unfold f_Ref_isUnit
  have e : (PR 0 0 - (1 : Int32)).toInt = (n : Int) - 1 := by rw [h]; exact pk_sub_toInt (a := n) (b := 1) (by omega) (by omega)
  simp only [in_c, bd1s, zs, tt, e, show (0 : Int64).toInt = 0 from rfl]
  (repeat' split) <;> first | rfl | omega
/-- what is told of a unit -/
def uOk (s g h : Int32) : Prop := (s = 0 ∨ s = 1) ∧ 1 ≤ g.toInt ∧ g.toInt ≤ 1000000 ∧ 0 ≤ h.toInt ∧ h.toInt ≤ 100
def rUnits (n : Nat) (P1 PR : PI) : Prop := n ≤ 16 ∧ P1 0 3 = nI n ∧ PR 0 0 = nI n ∧ (∀ j, j < 16 → P1 1 j = PR 2 j ∧ P1 2 j = PR 3 j ∧ P1 3 j = PR 4 j) ∧ ∀ j, j < n → uOk (PR 2 j) (PR 3 j) (PR 4 j)
/-- two pictures are alike but for these places, and these of the object's own -/
def eqx (S T : List Nat) (P V : PI) : Prop := (∀ q, q ∉ S → q ≠ 0 → V q = P q) ∧ ∀ j, j ∉ T → V 0 j = P 0 j
theorem eqx_rf (S T : List Nat) (P : PI) : eqx S T P P := ⟨fun _ _ _ => rfl, fun _ _ => rfl⟩
theorem u2_ne (P : PI) {p q : Nat} (i : Nat) (v : Int32) (h : q ≠ p) : mb_u2 P p i v q = P q := by
  funext j
  rw [u2_ap, if_neg (fun z => h z.1)]
theorem uo_ne (P : PI) {q : Nat} (s : Nat) (v : Int32) (h : q ≠ 0) : mb_uo P s v q = P q := by
  funext j
  rw [uo_ap, if_neg (fun z => h z.1)]
theorem eqx_u2 {S T : List Nat} {P V : PI} (h : eqx S T P V) {p : Nat} (hp : p ∈ S) (h0 : p ≠ 0) (i : Nat) (v : Int32) : eqx S T P (mb_u2 V p i v) :=
  ⟨fun q hq q0 => (u2_ne V i v (fun z : q = p => hq (by rw [z]; exact hp))).trans (h.1 q hq q0), fun j hj => by
    have e : ¬ (0 = p ∧ j = i) := fun z => h0 z.1.symm
    rw [u2_ap, if_neg e]; exact h.2 j hj⟩
theorem eqx_uo {S T : List Nat} {P V : PI} (h : eqx S T P V) {s : Nat} (hs : s ∈ T) (v : Int32) : eqx S T P (mb_uo V s v) :=
  ⟨fun q hq q0 => (uo_ne V s v q0).trans (h.1 q hq q0), fun j hj => by
    have e : ¬ (0 = 0 ∧ j = s) := fun z => hj (by rw [z.2]; exact hs)
    rw [uo_ap, if_neg e]; exact h.2 j hj⟩
theorem chkN {α : Type} {k N : Nat} (h : k < N) (hN : N < 2 ^ 31) (x : Option α) : mb_chk (nI k) N x = x := mb_chk_of (vp_in_nI h hN)
theorem nI_2 (a : Nat) : nI a + 2 = nI (a + 2) := nI_add a 2
theorem nI_3 (a : Nat) : nI a + 3 = nI (a + 3) := nI_add a 3
theorem nI_4 (a : Nat) : nI a + 4 = nI (a + 4) := nI_add a 4
theorem ofI {x : Int32} {n : Nat} (h0 : 0 ≤ x.toInt) (h : x.toInt < n) (hn : n < 2 ^ 31) : ∃ f, f < n ∧ x = nI f := vp_in_of (vp_in_iff.mpr ⟨h0, h⟩) hn
theorem u2L_ap (P : PL) (p i : Nat) (v : Int64) (q j : Nat) : mb_u2L P p i v q j = if q = p ∧ j = i then v else P q j := by
  unfold mb_u2L
  by_cases h : q = p
  · subst h
    rw [show Nat.beq q q = true from Nat.beq_refl q]
    show (if j = i then v else P q j) = _
    by_cases h2 : j = i
    · rw [if_pos h2, if_pos ⟨rfl, h2⟩]
    · rw [if_neg h2, if_neg (fun z => h2 z.2)]
  · rw [show Nat.beq q p = false from beqn h, if_neg (fun z => h z.1)]
    rfl
theorem uoL_ap (P : PL) (s : Nat) (v : Int64) (q j : Nat) : mb_uoL P s v q j = if q = 0 ∧ j = s then v else P q j := by
  unfold mb_uoL
  by_cases h : q = 0
  · subst h
    by_cases h2 : j = s
    · subst h2
      rw [if_pos ⟨rfl, rfl⟩]
      show cond (Nat.beq j j) v _ = v
      rw [show Nat.beq j j = true from Nat.beq_refl j]; rfl
    · rw [if_neg (fun z => h2 z.2)]
      show cond (Nat.beq j s) v _ = _
      rw [show Nat.beq j s = false from beqn h2]; rfl
  · rw [show Nat.beq q 0 = false from beqn h, if_neg (fun z => h z.1)]
    rfl
def eqL (S T : List Nat) (P V : PL) : Prop := (∀ q, q ∉ S → q ≠ 0 → V q = P q) ∧ ∀ j, j ∉ T → V 0 j = P 0 j
theorem eqL_rf (S T : List Nat) (P : PL) : eqL S T P P := ⟨fun _ _ _ => rfl, fun _ _ => rfl⟩
theorem eqL_u2 {S T : List Nat} {P V : PL} (h : eqL S T P V) {p : Nat} (hp : p ∈ S) (h0 : p ≠ 0) (i : Nat) (v : Int64) : eqL S T P (mb_u2L V p i v) :=
  ⟨fun q hq q0 => by
    funext j
    have e : ¬ (q = p ∧ j = i) := fun z => hq (by rw [z.1]; exact hp)
    rw [u2L_ap, if_neg e, h.1 q hq q0], fun j hj => by
    have e : ¬ (0 = p ∧ j = i) := fun z => h0 z.1.symm
    rw [u2L_ap, if_neg e]; exact h.2 j hj⟩
theorem eqL_uo {S T : List Nat} {P V : PL} (h : eqL S T P V) {s : Nat} (hs : s ∈ T) (v : Int64) : eqL S T P (mb_uoL V s v) :=
  ⟨fun q hq q0 => by
    funext j
    have e : ¬ (q = 0 ∧ j = s) := fun z => q0 z.1
    rw [uoL_ap, if_neg e, h.1 q hq q0], fun j hj => by
    have e : ¬ (0 = 0 ∧ j = s) := fun z => hj (by rw [z.2]; exact hs)
    rw [uoL_ap, if_neg e]; exact h.2 j hj⟩
theorem dist_c (x : Int32) : f_One_isDistrict x = some (if 0 ≤ x.toInt ∧ x.toInt ≤ 5 then 1 else 0) := by
  unfold f_One_isDistrict
  simp only [wi_c, bd1s, zs, Int32.reduceToInt]
theorem day_c (x : Int32) : f_One_isDay x = some (if 0 ≤ x.toInt ∧ x.toInt ≤ 9999 then 1 else 0) := by
  unfold f_One_isDay
  simp only [wi_c, bd1s, zs, Int32.reduceToInt]
theorem unum_c (x : Int32) : f_One_isUnitNumber x = some (if 0 ≤ x.toInt ∧ x.toInt ≤ 15 then 1 else 0) := by
  unfold f_One_isUnitNumber
  simp only [wi_c, bd1s, zs, Int32.reduceToInt]
