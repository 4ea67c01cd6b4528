/-! rounds: the plans as numbers -/
def tg (c t : Nat) : Nat := if t = 0 then c / 4096 else if t = 1 then c / 64 % 64 else if t = 2 then c % 64 else 0
def ut (t : Nat) : Nat := if t = 0 then 4096 else if t = 1 then 64 else 1
theorem tg_lt {c : Nat} (h : c < 262144) (t : Nat) : tg c t < 64 := by
  unfold tg
  split
  · omega
  · split
    · omega
    · split <;> omega
theorem tg_add {c t s : Nat} (ht : t < 3) (hc : c < 262144) (hm : c % (64 * ut t) = 0) (hs : s < 64) : c + s * ut t < 262144 ∧ ∀ j, tg (c + s * ut t) j = if j = t then s else tg c j := by
  rcases (show t = 0 ∨ t = 1 ∨ t = 2 by omega) with rfl | rfl | rfl
  · have e : ut 0 = 4096 := rfl
    rw [e] at hm ⊢
    refine ⟨by omega, fun j => ?_⟩
    unfold tg
    by_cases j0 : j = 0
    · rw [if_pos j0, if_pos j0]; omega
    rw [if_neg j0, if_neg j0, if_neg j0]
    by_cases j1 : j = 1
    · rw [if_pos j1, if_pos j1]; omega
    rw [if_neg j1, if_neg j1]
    split
    · omega
    · rfl
  · have e : ut 1 = 64 := rfl
    rw [e] at hm ⊢
    refine ⟨by omega, fun j => ?_⟩
    unfold tg
    by_cases j0 : j = 0
    · rw [if_pos j0, if_neg (by omega), if_pos j0]; omega
    rw [if_neg j0, if_neg j0]
    by_cases j1 : j = 1
    · rw [if_pos j1, if_pos j1]; omega
    rw [if_neg j1, if_neg j1, if_neg j1]
    split
    · omega
    · rfl
  · have e : ut 2 = 1 := rfl
    rw [e] at hm ⊢
    refine ⟨by omega, fun j => ?_⟩
    unfold tg
    by_cases j0 : j = 0
    · rw [if_pos j0, if_neg (by omega), if_pos j0]; omega
    rw [if_neg j0, if_neg j0]
    by_cases j1 : j = 1
    · rw [if_pos j1, if_neg (by omega), if_pos j1]; omega
    rw [if_neg j1, if_neg j1]
    by_cases j2 : j = 2
    · rw [if_pos j2, if_pos j2]; omega
    · rw [if_neg j2, if_neg j2, if_neg j2]
theorem tg_out {c t d : Nat} (ht : t < 3) (hc : c < 262144) (hd : 2 ^ d ≤ tg c t) : (c - 2 ^ d * ut t < c ∧ c - 2 ^ d * ut t < 262144) ∧ ∀ j, tg (c - 2 ^ d * ut t) j = if j = t then out (tg c t) d else tg c j := by
  have p : 0 < 2 ^ d := Nat.two_pow_pos d
  unfold out
  generalize 2 ^ d = z at *
  rcases (show t = 0 ∨ t = 1 ∨ t = 2 by omega) with rfl | rfl | rfl
  · have e : ut 0 = 4096 := rfl
    have e2 : tg c 0 = c / 4096 := rfl
    rw [e2] at hd
    rw [e]
    refine ⟨by omega, fun j => ?_⟩
    unfold tg
    by_cases j0 : j = 0
    · rw [if_pos j0, if_pos j0, if_pos rfl]; omega
    rw [if_neg j0, if_neg j0, if_neg j0]
    by_cases j1 : j = 1
    · rw [if_pos j1, if_pos j1]; omega
    rw [if_neg j1, if_neg j1]
    split
    · omega
    · rfl
  · have e : ut 1 = 64 := rfl
    have e2 : tg c 1 = c / 64 % 64 := rfl
    rw [e2] at hd
    rw [e, e2]
    refine ⟨by omega, fun j => ?_⟩
    unfold tg
    by_cases j0 : j = 0
    · rw [if_pos j0, if_neg (by omega), if_pos j0]; omega
    rw [if_neg j0, if_neg j0]
    by_cases j1 : j = 1
    · rw [if_pos j1, if_pos j1]; omega
    rw [if_neg j1, if_neg j1, if_neg j1]
    split
    · omega
    · rfl
  · have e : ut 2 = 1 := rfl
    have e2 : tg c 2 = c % 64 := rfl
    rw [e2] at hd
    rw [e, e2]
    refine ⟨by omega, fun j => ?_⟩
    unfold tg
    by_cases j0 : j = 0
    · rw [if_pos j0, if_neg (by omega), if_pos j0]; omega
    rw [if_neg j0, if_neg j0]
    by_cases j1 : j = 1
    · rw [if_pos j1, if_neg (by omega), if_pos j1]; omega
    rw [if_neg j1, if_neg j1]
    by_cases j2 : j = 2
    · rw [if_pos j2, if_pos j2]; omega
    · rw [if_neg j2, if_neg j2, if_neg j2]
/-- a district's loss by weeks -/
def lf (Ls : Nat → Bool → Bool → Bool → Int) (d : Nat) (q : Nat → Bool) : Int := Ls d (q 0) (q 1) (q 2)
def vd (Ls : Nat → Bool → Bool → Bool → Int) (c d : Nat) : Int := lf Ls d (fun j => tb (tg c j) d)
def vp (Ls : Nat → Bool → Bool → Bool → Int) (c : Nat) : Int := vd Ls c 0 + vd Ls c 1 + vd Ls c 2 + vd Ls c 3 + vd Ls c 4 + vd Ls c 5
def bef (c t d : Nat) (j : Nat) : Bool := decide (j < t) && tb (tg c j) d
def wth (c t d : Nat) (j : Nat) : Bool := decide (j = t) || bef c t d j
def wo (Ls : Nat → Bool → Bool → Bool → Int) (t c d : Nat) : Prop := lf Ls d (wth c t d) < lf Ls d (bef c t d)
def okd (Ls : Nat → Bool → Bool → Bool → Int) (w k t c : Nat) : Prop := (t + 1 < w → pc (tg c t) ≤ k ∧ ∀ d, d < 6 → tb (tg c t) d = true → wo Ls t c d) ∧ (w ≤ t + 1 → tg c t = 0)
def vis (Ls : Nat → Bool → Bool → Bool → Int) (w k c : Nat) : Prop := c < 262144 ∧ ∀ t, t < 3 → okd Ls w k t c
def cnd (w k c : Nat) : Prop := c < 262144 ∧ ∀ t, t < 3 → (t + 1 < w → pc (tg c t) ≤ k) ∧ (w ≤ t + 1 → tg c t = 0)
/-- diminishing savings -/
def dim (Ls : Nat → Bool → Bool → Bool → Int) : Prop := ∀ d, (∀ b c, Ls d false b c - Ls d true b c ≤ Ls d false false false - Ls d true false false) ∧ ∀ a c, Ls d a false c - Ls d a true c ≤ Ls d a false false - Ls d a true false
theorem dom {Ls : Nat → Bool → Bool → Bool → Int} (hL : dim Ls) {w k c : Nat} (hc : cnd w k c) (hv : ¬ vis Ls w k c) : ∃ c', c' < c ∧ cnd w k c' ∧ vp Ls c' ≤ vp Ls c := by
  have ex : ∃ t d, t < 3 ∧ t + 1 < w ∧ d < 6 ∧ tb (tg c t) d = true ∧ ¬ wo Ls t c d := by
    apply Classical.byContradiction
    intro no
    apply hv
    refine ⟨hc.1, fun t ht => ⟨fun a => ⟨(hc.2 t ht).1 a, fun d hd b => ?_⟩, (hc.2 t ht).2⟩⟩
    apply Classical.byContradiction
    intro q
    exact no ⟨t, d, ht, a, hd, b, q⟩
  obtain ⟨t, d, ht, htw, hd, hb, hw⟩ := ex
  have hs := tg_lt hc.1 t
  have o1 := out_ok _ hs d hd hb
  obtain ⟨⟨g1, g2⟩, g3⟩ := tg_out ht hc.1 (out_2 _ hs d hd hb)
  refine ⟨c - 2 ^ d * ut t, g1, ⟨g2, fun j hj => ⟨fun a => ?_, fun a => ?_⟩⟩, ?_⟩
  · rw [g3]
    split
    · have := (hc.2 t ht).1 htw
      omega
    · exact (hc.2 j hj).1 a
  · rw [g3, if_neg (by omega)]
    exact (hc.2 j hj).2 a
  · have each : ∀ e, e < 6 → vd Ls (c - 2 ^ d * ut t) e ≤ vd Ls c e := by
      intro e he
      by_cases ed : e = d
      · subst ed
        have nb : ∀ j, tb (tg (c - 2 ^ e * ut t) j) e = if j = t then false else tb (tg c j) e := by
          intro j
          rw [g3]
          by_cases q : j = t
          · rw [if_pos q, if_pos q, o1.2.2 e hd, if_pos rfl]
          · rw [if_neg q, if_neg q]
        have hw2 : ¬ Ls e (wth c t e 0) (wth c t e 1) (wth c t e 2) < Ls e (bef c t e 0) (bef c t e 1) (bef c t e 2) := hw
        show Ls e (tb (tg (c - 2 ^ e * ut t) 0) e) (tb (tg (c - 2 ^ e * ut t) 1) e) (tb (tg (c - 2 ^ e * ut t) 2) e) ≤ Ls e (tb (tg c 0) e) (tb (tg c 1) e) (tb (tg c 2) e)
        rw [nb, nb, nb]
        rcases (show t = 0 ∨ t = 1 ∨ t = 2 by omega) with rfl | rfl | rfl
        · have k := (hL e).1 (tb (tg c 1) e) (tb (tg c 2) e)
          have w : ¬ Ls e true false false < Ls e false false false := hw2
          show Ls e false (tb (tg c 1) e) (tb (tg c 2) e) ≤ Ls e (tb (tg c 0) e) (tb (tg c 1) e) (tb (tg c 2) e)
          rw [hb]
          omega
        · have k := (hL e).2 (tb (tg c 0) e) (tb (tg c 2) e)
          have w : ¬ Ls e (tb (tg c 0) e) true false < Ls e (tb (tg c 0) e) false false := hw2
          show Ls e (tb (tg c 0) e) false (tb (tg c 2) e) ≤ Ls e (tb (tg c 0) e) (tb (tg c 1) e) (tb (tg c 2) e)
          rw [hb]
          omega
        · have w : ¬ Ls e (tb (tg c 0) e) (tb (tg c 1) e) true < Ls e (tb (tg c 0) e) (tb (tg c 1) e) false := hw2
          show Ls e (tb (tg c 0) e) (tb (tg c 1) e) false ≤ Ls e (tb (tg c 0) e) (tb (tg c 1) e) (tb (tg c 2) e)
          rw [hb]
          omega
      · have nb : ∀ j, tb (tg (c - 2 ^ d * ut t) j) e = tb (tg c j) e := by
          intro j
          rw [g3]
          by_cases q : j = t
          · rw [if_pos q, o1.2.2 e he, if_neg ed, q]
          · rw [if_neg q]
        show Ls e (tb (tg (c - 2 ^ d * ut t) 0) e) (tb (tg (c - 2 ^ d * ut t) 1) e) (tb (tg (c - 2 ^ d * ut t) 2) e) ≤ Ls e (tb (tg c 0) e) (tb (tg c 1) e) (tb (tg c 2) e)
        rw [nb, nb, nb]
        exact Int.le_refl _
    have e0 := each 0 (by decide)
    have e1 := each 1 (by decide)
    have e2 := each 2 (by decide)
    have e3 := each 3 (by decide)
    have e4 := each 4 (by decide)
    have e5 := each 5 (by decide)
    unfold vp
    omega
theorem vis_all {Ls : Nat → Bool → Bool → Bool → Int} (hL : dim Ls) {w k : Nat} {b : Option Nat} (h : op1 (vp Ls) (vis Ls w k) b) : op1 (vp Ls) (cnd w k) b := by
  refine op1_dom (fun c hc => ⟨hc.1, fun t ht => ⟨fun a => ((hc.2 t ht).1 a).1, (hc.2 t ht).2⟩⟩) (fun c hc => ?_) h
  by_cases q : vis Ls w k c
  · exact Or.inl q
  · exact Or.inr (dom hL hc q)
