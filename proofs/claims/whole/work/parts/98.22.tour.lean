/-! rounds: what a plan of visits loses -/
def lv (l : Nat → Int) (F : Nat → Bool) (a b c : Bool) : Int := l 0 + (if (a && F 0) = true then 0 else l 1 + (if (b && F 1) = true then 0 else l 2 + (if (c && F 2) = true then 0 else l 3)))
/-- the district's loss over the first rods -/
def ls (l : Nat → Nat → Int) (F : Nat → Nat → Bool) (H : Nat → Bool) (D : Nat → Nat) : Nat → Nat → Bool → Bool → Bool → Int
  | 0, _, _, _, _ => 0
  | N + 1, d, a, b, c => ls l F H D N d a b c + (if H N = true ∧ D N = d then lv (l N) (F N) a b c else 0)
theorem lv_d0 {l : Nat → Int} {F : Nat → Bool} (h : ∀ t, 0 ≤ l t) (b c : Bool) : lv l F false b c - lv l F true b c ≤ lv l F false false false - lv l F true false false := by
  have h0 := h 0
  have h1 := h 1
  have h2 := h 2
  have h3 := h 3
  unfold lv
  generalize F 0 = f0
  generalize F 1 = f1
  generalize F 2 = f2
  cases b <;> cases c <;> cases f0 <;> cases f1 <;> cases f2 <;> simp <;> omega
theorem lv_d1 {l : Nat → Int} {F : Nat → Bool} (h : ∀ t, 0 ≤ l t) (a c : Bool) : lv l F a false c - lv l F a true c ≤ lv l F a false false - lv l F a true false := by
  have h0 := h 0
  have h1 := h 1
  have h2 := h 2
  have h3 := h 3
  unfold lv
  generalize F 0 = f0
  generalize F 1 = f1
  generalize F 2 = f2
  cases a <;> cases c <;> cases f0 <;> cases f1 <;> cases f2 <;> simp <;> omega
theorem ls_d0 {l : Nat → Nat → Int} {F : Nat → Nat → Bool} {H : Nat → Bool} {D : Nat → Nat} (h : ∀ i t, 0 ≤ l i t) (d : Nat) (b c : Bool) : ∀ N, ls l F H D N d false b c - ls l F H D N d true b c ≤ ls l F H D N d false false false - ls l F H D N d true false false
  | 0 => Int.le_refl _
  | N + 1 => by
    have ih := ls_d0 h d b c N (l := l) (F := F) (H := H) (D := D)
    have k := lv_d0 (F := F N) (h N) b c
    show ls l F H D N d false b c + (if H N = true ∧ D N = d then lv (l N) (F N) false b c else 0) - (ls l F H D N d true b c + (if H N = true ∧ D N = d then lv (l N) (F N) true b c else 0)) ≤ ls l F H D N d false false false + (if H N = true ∧ D N = d then lv (l N) (F N) false false false else 0) - (ls l F H D N d true false false + (if H N = true ∧ D N = d then lv (l N) (F N) true false false else 0))
    by_cases q : H N = true ∧ D N = d
    · simp only [if_pos q]; omega
    · simp only [if_neg q]; omega
theorem ls_d1 {l : Nat → Nat → Int} {F : Nat → Nat → Bool} {H : Nat → Bool} {D : Nat → Nat} (h : ∀ i t, 0 ≤ l i t) (d : Nat) (a c : Bool) : ∀ N, ls l F H D N d a false c - ls l F H D N d a true c ≤ ls l F H D N d a false false - ls l F H D N d a true false
  | 0 => by show (0 : Int) - 0 ≤ 0 - 0; omega
  | N + 1 => by
    have ih := ls_d1 h d a c N (l := l) (F := F) (H := H) (D := D)
    have k := lv_d1 (F := F N) (h N) a c
    show ls l F H D N d a false c + (if H N = true ∧ D N = d then lv (l N) (F N) a false c else 0) - (ls l F H D N d a true c + (if H N = true ∧ D N = d then lv (l N) (F N) a true c else 0)) ≤ ls l F H D N d a false false + (if H N = true ∧ D N = d then lv (l N) (F N) a false false else 0) - (ls l F H D N d a true false + (if H N = true ∧ D N = d then lv (l N) (F N) a true false else 0))
    by_cases q : H N = true ∧ D N = d
    · simp only [if_pos q]; omega
    · simp only [if_neg q]; omega
/-! the first of the least -/
def op1 (V : Nat → Int) (S : Nat → Prop) : Option Nat → Prop
  | none => ∀ c, ¬ S c
  | some c => S c ∧ ∀ c', S c' → V c < V c' ∨ (V c = V c' ∧ c ≤ c')
theorem op1_uni {V : Nat → Int} {S : Nat → Prop} : ∀ {b b2 : Option Nat}, op1 V S b → op1 V S b2 → b = b2
  | none, none, _, _ => rfl
  | none, some c, h, h2 => absurd h2.1 (h c)
  | some c, none, h, h2 => absurd h.1 (h2 c)
  | some c, some c2, h, h2 => by
    have a := h.2 c2 h2.1
    have b := h2.2 c h.1
    rw [show c = c2 by omega]
theorem op1_dom {V : Nat → Int} {S S2 : Nat → Prop} (h1 : ∀ c, S c → S2 c) (h2 : ∀ c, S2 c → S c ∨ ∃ c', c' < c ∧ S2 c' ∧ V c' ≤ V c) : ∀ {b : Option Nat}, op1 V S b → op1 V S2 b
  | none, h => by
    intro c
    induction c using Nat.strongRecOn with
    | _ c ih =>
      intro hs
      rcases h2 c hs with a | ⟨c', l, s, -⟩
      · exact h c a
      · exact ih c' l s
  | some c, h => by
    refine ⟨h1 c h.1, fun c' => ?_⟩
    induction c' using Nat.strongRecOn with
    | _ c' ih =>
      intro hs
      rcases h2 c' hs with a | ⟨c2, l, s, v⟩
      · exact h.2 c' a
      · have := ih c2 l s
        omega
theorem op1_cong {V : Nat → Int} {S S2 : Nat → Prop} (h1 : ∀ c, S c → S2 c) (h2 : ∀ c, S2 c → S c) {b : Option Nat} (h : op1 V S b) : op1 V S2 b := op1_dom h1 (fun c hc => Or.inl (h2 c hc)) h
def up1 (V : Nat → Int) (b : Option Nat) (c : Nat) : Option Nat :=
  match b with
  | none => some c
  | some c0 => if V c < V c0 then some c else some c0
theorem op1_add {V : Nat → Int} {S S2 : Nat → Prop} {c : Nat} (h1 : ∀ c', S c' → S2 c') (h2 : ∀ c', S2 c' → S c' ∨ c' = c) (h3 : S2 c) (h4 : ∀ c', S c' → c' < c) : ∀ {b : Option Nat}, op1 V S b → op1 V S2 (up1 V b c)
  | none, h => by
    refine ⟨h3, fun c' hs => ?_⟩
    rcases h2 c' hs with a | rfl
    · exact absurd a (h c')
    · exact Or.inr ⟨rfl, Nat.le_refl _⟩
  | some c0, h => by
    obtain ⟨s0, o0⟩ := h
    unfold up1
    have l0 := h4 c0 s0
    by_cases b : V c < V c0
    · simp only [if_pos b]
      refine ⟨h3, fun c' hs => ?_⟩
      rcases h2 c' hs with a | rfl
      · have := o0 c' a
        omega
      · exact Or.inr ⟨rfl, Nat.le_refl _⟩
    · simp only [if_neg b]
      refine ⟨h1 c0 s0, fun c' hs => ?_⟩
      rcases h2 c' hs with a | rfl
      · exact o0 c' a
      · omega
/-! sets of districts as numbers -/
abbrev tb (s d : Nat) : Bool := s.testBit d
def pc (s : Nat) : Nat := (tb s 0).toNat + (tb s 1).toNat + (tb s 2).toNat + (tb s 3).toNat + (tb s 4).toNat + (tb s 5).toNat
def out (s d : Nat) : Nat := s - 2 ^ d
theorem out_ok : ∀ s, s < 64 → ∀ d, d < 6 → tb s d = true → out s d < s ∧ pc (out s d) ≤ pc s ∧ ∀ e, e < 6 → tb (out s d) e = if e = d then false else tb s e := by decide +kernel
theorem out_2 : ∀ s, s < 64 → ∀ d, d < 6 → tb s d = true → 2 ^ d ≤ s := by decide +kernel
theorem sub_c : ∀ s, s < 64 → ∀ h, h < 64 → (nI s &&& (nI h ^^^ (-1 : Int32)) = 0 ↔ ∀ d, d < 6 → tb s d = true → tb h d = true) := by decide +kernel
theorem sub_le : ∀ s, s < 64 → ∀ h, h < 64 → (∀ d, d < 6 → tb s d = true → tb h d = true) → s ≤ h := by decide +kernel
theorem bc_c : ∀ s, s < 64 → f_Integer_bitCount (nI s) = some (nI (pc s)) := by decide +kernel
theorem pc_le : ∀ s, s < 64 → pc s ≤ 6 := by decide +kernel
theorem tbv : ∀ s, s < 64 → ∀ d, d < 6 → (nI s >>> (nI d &&& 31)) &&& 1 = nI (tb s d).toNat := by decide +kernel
