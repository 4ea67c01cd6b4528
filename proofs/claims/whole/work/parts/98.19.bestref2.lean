/-! best: the reference's choice -/
theorem dl20 {c : Nat} (h : c < 256) : dl 2 c 0 = c / 16 := by show c / 16 % 16 = _; omega
theorem dl21 (c : Nat) : dl 2 c 1 = c % 16 := rfl
theorem dl30 {c : Nat} (h : c < 4096) : dl 3 c 0 = c / 256 := by show c / 16 / 16 % 16 = _; omega
theorem dl31 (c : Nat) : dl 3 c 1 = c / 16 % 16 := rfl
theorem dl32 (c : Nat) : dl 3 c 2 = c % 16 := rfl
theorem dl40 {c : Nat} (h : c < 65536) : dl 4 c 0 = c / 4096 := by show c / 16 / 16 / 16 % 16 = _; omega
theorem dl41 (c : Nat) : dl 4 c 1 = c / 256 % 16 := by show c / 16 / 16 % 16 = _; omega
theorem dl42 (c : Nat) : dl 4 c 2 = c / 16 % 16 := rfl
theorem dl43 (c : Nat) : dl 4 c 3 = c % 16 := rfl
theorem dd1 (c : Nat) : c / 16 / 16 = c / 256 := Nat.div_div_eq_div_mul c 16 16
theorem dd2 (c : Nat) : c / 16 / 256 = c / 4096 := Nat.div_div_eq_div_mul c 16 256
theorem dd3 (c : Nat) : c / 256 / 16 = c / 4096 := Nat.div_div_eq_div_mul c 256 16
theorem bsome {o : Option Int64} : o.bind some = o := by cases o <;> rfl
/-- a row is well told -/
def wel (N m c : Nat) : Prop := (∀ j, j < m → dl m c j < N) ∧ ∀ j, j < m → ∀ i, j < i → i < m → dl m c i ≠ dl m c j
theorem W_wel {P : PI} {N m c : Nat} (hc : cand m c) (h : wel N m c) : Wv P m c = rdv P m c := by
  obtain ⟨-, h⟩ := h
  rcases hc with ⟨rfl, hc⟩ | ⟨rfl, hc⟩ | ⟨rfl, hc⟩
  · have a := h 0 (by decide) 1 (by decide) (by decide)
    rw [dl20 hc, dl21] at a
    unfold Wv rdv pv2
    rw [if_pos rfl, if_pos rfl, if_neg (by omega), dl20 hc, dl21]
    simp only [bsome]
  · have a := h 0 (by decide) 1 (by decide) (by decide)
    have b := h 0 (by decide) 2 (by decide) (by decide)
    have d := h 1 (by decide) 2 (by decide) (by decide)
    rw [dl30 hc, dl31] at a
    rw [dl30 hc, dl32] at b
    rw [dl31, dl32] at d
    unfold Wv rdv pv3 pv2
    rw [if_neg (show ¬ (3 : Nat) = 2 by decide), if_neg (show ¬ (3 : Nat) = 2 by decide), if_pos rfl, if_pos rfl, dl30 hc, dl31, dl32]
    simp only [dd1, bsome, if_neg (show ¬ c / 256 = c / 16 % 16 by omega), if_neg (show ¬ (c % 16 = c / 256 ∨ c % 16 = c / 16 % 16) by omega), Option.bind_assoc]
  · have a := h 0 (by decide) 1 (by decide) (by decide)
    have b := h 0 (by decide) 2 (by decide) (by decide)
    have d := h 0 (by decide) 3 (by decide) (by decide)
    have e := h 1 (by decide) 2 (by decide) (by decide)
    have f := h 1 (by decide) 3 (by decide) (by decide)
    have g := h 2 (by decide) 3 (by decide) (by decide)
    rw [dl40 hc, dl41] at a
    rw [dl40 hc, dl42] at b
    rw [dl40 hc, dl43] at d
    rw [dl41, dl42] at e
    rw [dl41, dl43] at f
    rw [dl42, dl43] at g
    unfold Wv rdv pv4 pv3 pv2
    rw [if_neg (show ¬ (4 : Nat) = 2 by decide), if_neg (show ¬ (4 : Nat) = 2 by decide), if_neg (show ¬ (4 : Nat) = 3 by decide), if_neg (show ¬ (4 : Nat) = 3 by decide), if_pos rfl, dl40 hc, dl41, dl42, dl43]
    simp only [dd1, dd2, dd3, bsome, if_neg (show ¬ c / 4096 = c / 256 % 16 by omega), if_neg (show ¬ (c / 16 % 16 = c / 4096 ∨ c / 16 % 16 = c / 256 % 16) by omega), if_neg (show ¬ (c % 16 = c / 4096 ∨ c % 16 = c / 256 % 16 ∨ c % 16 = c / 16 % 16) by omega), Option.bind_assoc]
theorem bind_some {o : Option Int64} {f : Int64 → Option Int64} {v : Int64} (h : o.bind f = some v) : ∃ x, o = some x ∧ f x = some v := by
  cases o with
  | none => cases h
  | some x => exact ⟨x, rfl, h⟩
def okv (x : Int64) : Prop := 0 ≤ x.toInt ∧ x.toInt ≤ 1000000000000
theorem pv2_s {n c : Nat} {P PR : PI} (hT : rTables n P PR) (hc : c < 256) {x : Int64} (h : pv2 P c = some x) : okv x ∧ c / 16 < n ∧ c % 16 < n ∧ c / 16 ≠ c % 16 := by
  unfold pv2 at h
  by_cases q : c / 16 = c % 16
  · rw [if_pos q] at h; cases h
  · rw [if_neg q] at h
    exact hop_ok hT (by omega) (by omega) (by decide) h
theorem pv3_s {n c : Nat} {P PR : PI} (hT : rTables n P PR) (hc : c < 4096) {x : Int64} (h : pv3 P c = some x) : okv x ∧ (c / 16 / 16 < n ∧ c / 16 % 16 < n ∧ c % 16 < n) ∧ c / 16 / 16 ≠ c / 16 % 16 ∧ c % 16 ≠ c / 256 ∧ c % 16 ≠ c / 16 % 16 := by
  unfold pv3 at h
  obtain ⟨y, h1, h2⟩ := bind_some h
  have a := pv2_s hT (by omega) h1
  by_cases q : c % 16 = c / 256 ∨ c % 16 = c / 16 % 16
  · rw [if_pos q] at h2; cases h2
  · rw [if_neg q] at h2
    have b := hop_ok hT (by omega) (by omega) a.1 h2
    exact ⟨b.1, ⟨a.2.1, a.2.2.1, b.2.2.1⟩, a.2.2.2, fun z => q (Or.inl z), fun z => q (Or.inr z)⟩
theorem pv4_s {n c : Nat} {P PR : PI} (hT : rTables n P PR) (hc : c < 65536) {x : Int64} (h : pv4 P c = some x) : okv x ∧ (c / 16 / 16 / 16 < n ∧ c / 16 / 16 % 16 < n ∧ c / 16 % 16 < n ∧ c % 16 < n) ∧ (c / 16 / 16 / 16 ≠ c / 16 / 16 % 16 ∧ c / 16 % 16 ≠ c / 16 / 256 ∧ c / 16 % 16 ≠ c / 16 / 16 % 16) ∧ c % 16 ≠ c / 4096 ∧ c % 16 ≠ c / 256 % 16 ∧ c % 16 ≠ c / 16 % 16 := by
  unfold pv4 at h
  obtain ⟨y, h1, h2⟩ := bind_some h
  have a := pv3_s hT (by omega) h1
  by_cases q : c % 16 = c / 4096 ∨ c % 16 = c / 256 % 16 ∨ c % 16 = c / 16 % 16
  · rw [if_pos q] at h2; cases h2
  · rw [if_neg q] at h2
    have b := hop_ok hT (by omega) (by omega) a.1 h2
    exact ⟨b.1, ⟨a.2.1.1, a.2.1.2.1, a.2.1.2.2, b.2.2.1⟩, a.2.2, fun z => q (Or.inl z), fun z => q (Or.inr (Or.inl z)), fun z => q (Or.inr (Or.inr z))⟩
theorem W_s {n m c : Nat} {P PR : PI} (hT : rTables n P PR) (hc : cand m c) {v : Int64} (h : Wv P m c = some v) : okv v ∧ wel n m c := by
  rcases hc with ⟨rfl, hc⟩ | ⟨rfl, hc⟩ | ⟨rfl, hc⟩
  · unfold Wv at h
    rw [if_pos rfl] at h
    obtain ⟨y, h1, h2⟩ := bind_some h
    have a := pv2_s hT hc h1
    have b := hop_ok hT (by omega) (by omega) a.1 h2
    refine ⟨b.1, fun j hj => ?_, fun j hj i h1 h2 => ?_⟩
    · rcases (show j = 0 ∨ j = 1 by omega) with rfl | rfl
      · rw [dl20 hc]; omega
      · rw [dl21]; omega
    · have e : j = 0 ∧ i = 1 := by omega
      rw [e.1, e.2, dl20 hc, dl21]; omega
  · unfold Wv at h
    rw [if_neg (by decide), if_pos rfl] at h
    obtain ⟨y, h1, h2⟩ := bind_some h
    have a := pv3_s hT hc h1
    have b := hop_ok hT (by omega) (by omega) a.1 h2
    simp only [dd1] at a
    refine ⟨b.1, fun j hj => ?_, fun j hj i h1 h2 => ?_⟩
    · rcases (show j = 0 ∨ j = 1 ∨ j = 2 by omega) with rfl | rfl | rfl
      · rw [dl30 hc]; omega
      · rw [dl31]; omega
      · rw [dl32]; omega
    · rcases (show (j = 0 ∧ i = 1) ∨ (j = 0 ∧ i = 2) ∨ (j = 1 ∧ i = 2) by omega) with ⟨e1, e2⟩ | ⟨e1, e2⟩ | ⟨e1, e2⟩
      · rw [e1, e2, dl30 hc, dl31]; omega
      · rw [e1, e2, dl30 hc, dl32]; omega
      · rw [e1, e2, dl31, dl32]; omega
  · unfold Wv at h
    rw [if_neg (by decide), if_neg (by decide), if_pos rfl] at h
    obtain ⟨y, h1, h2⟩ := bind_some h
    have a := pv4_s hT hc h1
    have b := hop_ok hT (by omega) (by omega) a.1 h2
    simp only [dd1, dd2, dd3] at a
    refine ⟨b.1, fun j hj => ?_, fun j hj i h1 h2 => ?_⟩
    · rcases (show j = 0 ∨ j = 1 ∨ j = 2 ∨ j = 3 by omega) with rfl | rfl | rfl | rfl
      · rw [dl40 hc]; omega
      · rw [dl41]; omega
      · rw [dl42]; omega
      · rw [dl43]; omega
    · rcases (show (j = 0 ∧ i = 1) ∨ (j = 0 ∧ i = 2) ∨ (j = 0 ∧ i = 3) ∨ (j = 1 ∧ i = 2) ∨ (j = 1 ∧ i = 3) ∨ (j = 2 ∧ i = 3) by omega) with ⟨e1, e2⟩ | ⟨e1, e2⟩ | ⟨e1, e2⟩ | ⟨e1, e2⟩ | ⟨e1, e2⟩ | ⟨e1, e2⟩
      · rw [e1, e2, dl40 hc, dl41]; omega
      · rw [e1, e2, dl40 hc, dl42]; omega
      · rw [e1, e2, dl40 hc, dl43]; omega
      · rw [e1, e2, dl41, dl42]; omega
      · rw [e1, e2, dl41, dl43]; omega
      · rw [e1, e2, dl42, dl43]; omega
