/-! rounds: what a rod loses -/
def lw (A : Int64) (o : Int32) : Int64 := if 0 ≤ o then 0 else A * (-o).toInt64 / 1000
theorem sv2 {A : Int64} {r : Int32} (hA : 0 ≤ A.toInt ∧ A.toInt ≤ 1000000000) (hr : -500 ≤ r.toInt ∧ r.toInt ≤ 200) : (A * (-r).toInt64 / 1000).toInt = (A.toInt * -r.toInt).tdiv 1000 ∧ -1000000000000 ≤ (A.toInt * -r.toInt).tdiv 1000 ∧ (A.toInt * -r.toInt).tdiv 1000 ≤ 1000000000000 := by
  have en : (-r).toInt = -r.toInt := fb_negI (by omega)
  have a1 : A.toInt * -r.toInt ≤ A.toInt * 500 := Int.mul_le_mul_of_nonneg_left (by omega) hA.1
  have a2 : A.toInt * (-500) ≤ A.toInt * -r.toInt := Int.mul_le_mul_of_nonneg_left (by omega) hA.1
  have e2 : (A * (-r).toInt64).toInt = A.toInt * -r.toInt := by rw [fb_mulL (by rw [tt, en]; omega) (by rw [tt, en]; omega), tt, en]
  have := Int.mul_tdiv_add_tmod (A.toInt * -r.toInt) 1000
  have q1 := Int.tmod_lt_of_pos (A.toInt * -r.toInt) (b := 1000) (by decide)
  have q2 := Int.lt_tmod_of_pos (A.toInt * -r.toInt) (b := 1000) (by decide)
  refine ⟨by rw [tdv, e2], by omega, by omega⟩
theorem o0 (o : Int32) : 0 ≤ o ↔ 0 ≤ o.toInt := by rw [Int32.le_iff_toInt_le]; rfl
theorem lw_ok {A : Int64} {r : Int32} (hA : 0 ≤ A.toInt ∧ A.toInt ≤ 1000000000) (hr : -500 ≤ r.toInt ∧ r.toInt ≤ 200) : (0 ≤ (lw A r).toInt ∧ (lw A r).toInt ≤ 1000000000000) ∧ (if A * (-r).toInt64 / 1000 < 0 then (0 : Int64) else A * (-r).toInt64 / 1000) = lw A r := by
  obtain ⟨s1, s2, s3⟩ := sv2 hA hr
  have z0 : (0 : Int64).toInt = 0 := rfl
  unfold lw
  by_cases q : 0 ≤ r.toInt
  · rw [if_pos ((o0 r).mpr q)]
    refine ⟨⟨by rw [z0]; omega, by rw [z0]; omega⟩, ?_⟩
    split
    · rfl
    · rename_i y
      have y2 : ¬ (A * (-r).toInt64 / 1000).toInt < 0 := fun z => y (Int64.lt_iff_toInt_lt.mpr z)
      have n1 : A.toInt * -r.toInt ≤ 0 := by
        have : 0 ≤ A.toInt * r.toInt := Int.mul_nonneg hA.1 q
        rw [Int.mul_neg]
        omega
      have := Int.mul_tdiv_add_tmod (A.toInt * -r.toInt) 1000
      have q1 := Int.tmod_lt_of_pos (A.toInt * -r.toInt) (b := 1000) (by decide)
      have q2 := Int.lt_tmod_of_pos (A.toInt * -r.toInt) (b := 1000) (by decide)
      have e : (A.toInt * -r.toInt).tdiv 1000 ≤ 0 := by
        have : 0 ≤ (A.toInt * r.toInt).tdiv 1000 := Int.tdiv_nonneg (Int.mul_nonneg hA.1 q) (by decide)
        rw [Int.mul_neg, Int.neg_tdiv]
        omega
      exact zer (by omega) (by omega)
  · rw [if_neg (fun z => q ((o0 r).mp z))]
    have p : 0 ≤ (A.toInt * -r.toInt).tdiv 1000 := Int.tdiv_nonneg (Int.mul_nonneg hA.1 (by omega)) (by decide)
    refine ⟨⟨by omega, by omega⟩, ?_⟩
    rw [if_neg (fun z => by
      have := Int64.lt_iff_toInt_lt.mp z
      rw [z0] at this
      omega)]
/-- week by week -/
def lvg (l : Nat → Int) (s : Nat → Bool) : Nat → Nat → Int
  | 0, _ => 0
  | r + 1, t => l t + (if s t = true then 0 else lvg l s r (t + 1))
theorem lvg_lv {l : Nat → Int} {F q : Nat → Bool} {w : Nat} (hw : 1 ≤ w ∧ w ≤ 4) (h : ∀ t, w ≤ t → l t = 0) : lvg l (fun t => q t && F t) w 0 = lv l F (q 0) (q 1) (q 2) := by
  unfold lv
  rcases (show w = 1 ∨ w = 2 ∨ w = 3 ∨ w = 4 by omega) with rfl | rfl | rfl | rfl
  · have h1 := h 1 (by omega)
    have h2 := h 2 (by omega)
    have h3 := h 3 (by omega)
    show l 0 + (if (q 0 && F 0) = true then 0 else 0) = _
    (repeat' split) <;> omega
  · have h2 := h 2 (by omega)
    have h3 := h 3 (by omega)
    show l 0 + (if (q 0 && F 0) = true then 0 else l 1 + (if (q 1 && F 1) = true then 0 else 0)) = _
    (repeat' split) <;> omega
  · have h3 := h 3 (by omega)
    show l 0 + (if (q 0 && F 0) = true then 0 else l 1 + (if (q 1 && F 1) = true then 0 else l 2 + (if (q 2 && F 2) = true then 0 else 0))) = _
    (repeat' split) <;> omega
  · show l 0 + (if (q 0 && F 0) = true then 0 else l 1 + (if (q 1 && F 1) = true then 0 else l 2 + (if (q 2 && F 2) = true then 0 else l 3 + (if (q 3 && F 3) = true then 0 else 0)))) = _
    (repeat' split) <;> omega
theorem lvg_cong {l : Nat → Int} {s s2 : Nat → Bool} : ∀ r t, (∀ j, t ≤ j → j < t + r → s j = s2 j) → lvg l s r t = lvg l s2 r t
  | 0, _, _ => rfl
  | r + 1, t, h => by
    show l t + (if s t = true then 0 else lvg l s r (t + 1)) = l t + (if s2 t = true then 0 else lvg l s2 r (t + 1))
    rw [h t (by omega) (by omega), lvg_cong r (t + 1) (fun j a b => h j (by omega) (by omega))]
theorem lvg_bd {l : Nat → Int} {s : Nat → Bool} (h : ∀ t, 0 ≤ l t ∧ l t ≤ 1000000000000) : ∀ r t, 0 ≤ lvg l s r t ∧ lvg l s r t ≤ r * 1000000000000
  | 0, _ => ⟨Int.le_refl _, by show (0 : Int) ≤ _; omega⟩
  | r + 1, t => by
    have a := h t
    have b := lvg_bd h r (t + 1) (s := s)
    show 0 ≤ l t + (if s t = true then 0 else lvg l s r (t + 1)) ∧ l t + (if s t = true then 0 else lvg l s r (t + 1)) ≤ _
    split <;> omega
/-! the data of the rods -/
def rA (P1 P9 : PI) (i : Nat) : Int64 := (P9 9 i).toInt64 * (P1 2 (P9 3 i).toNatClampNeg).toInt64
def rO (P9 : PI) (i t : Nat) : Int32 := offv (P9 5 i) (P9 6 i) (P9 8 i + nI t)
def rl (P1 P9 : PI) (c w i t : Nat) : Int := if t < w ∧ i < c then (lw (rA P1 P9 i) (rO P9 i t)).toInt else 0
def rF (P7 P9 : PI) (tol : Int32) (i t : Nat) : Bool := decide (f_Rods_isForfeit P9 P7 (nI i) (P9 8 i + nI t + 1) (P9 0 1 + nI t) tol = some 1)
def rH (P9 : PI) (i : Nat) : Bool := decide (P9 11 i = 0)
def rD (P9 : PI) (i : Nat) : Nat := (P9 4 i).toNatClampNeg
theorem rod_fact {n c w0 : Nat} {P1 P9 PR : PI} {L9 LR : PL} (hu : rUnits n P1 PR) (h : wkRel n c w0 P9 PR L9 LR) {i : Nat} (hi : i < c) : i < 12 ∧ (∃ u, u < 16 ∧ P9 3 i = nI u ∧ PR 19 (8 * i) = nI u ∧ P1 2 u = PR 3 u) ∧ (rD P9 i < 6 ∧ P9 4 i = nI (rD P9 i) ∧ PR 19 (8 * i + 1) = nI (rD P9 i)) ∧ (0 ≤ (rA P1 P9 i).toInt ∧ (rA P1 P9 i).toInt ≤ 1000000000) ∧ ∀ t, t ≤ 4 → -500 ≤ (rO P9 i t).toInt ∧ (rO P9 i t).toInt ≤ 200 := by
  obtain ⟨hc, hw, -, -, -, -, hr, -⟩ := h
  obtain ⟨⟨e0, e1, e2, e3, e4, e5, e6⟩, ⟨⟨u, u1, u2⟩, d1, d2, d3, d4⟩, fw, wr, f1, f2, f3⟩ := hr i hi
  obtain ⟨hn, -, -, hU, hok⟩ := hu
  have wr1 : wr ≤ 101 := by
    rcases f3 with ⟨-, -, z⟩ | ⟨z, z1, -, -, z2⟩ <;> omega
  obtain ⟨d, dd, de⟩ := ofI (n := 6) d1.1 (by omega) (by decide)
  have rd : rD P9 i = d := by unfold rD; rw [de, nI_clamp (by omega)]
  have ul : u < 16 := by omega
  have pu := hU u ul
  refine ⟨by omega, ⟨u, ul, u2, by rw [← e0]; exact u2, pu.2.1⟩, ⟨by omega, by rw [rd]; exact de, by rw [← e1, rd]; exact de⟩, ?_, fun t ht => ?_⟩
  · unfold rA
    rw [u2, nI_clamp (by omega), pu.2.1]
    have ok := hok u u1
    exact mulA d4 ⟨by have := ok.2.1; omega, ok.2.2.1⟩
  · unfold rO
    rw [f2, nI_add]
    exact off_rng d2 d3 (x := nI (wr + t)) rfl (by omega)
theorem rl_bd {n c w0 : Nat} {P1 P9 PR : PI} {L9 LR : PL} (hu : rUnits n P1 PR) (h : wkRel n c w0 P9 PR L9 LR) {w : Nat} (hw : w ≤ 4) : ∀ i t, 0 ≤ rl P1 P9 c w i t ∧ rl P1 P9 c w i t ≤ 1000000000000 := by
  intro i t
  unfold rl
  by_cases q : t < w ∧ i < c
  · rw [if_pos q]
    obtain ⟨-, -, -, a, b⟩ := rod_fact hu h q.2
    exact (lw_ok a (b t (by omega))).1
  · rw [if_neg q]
    omega
