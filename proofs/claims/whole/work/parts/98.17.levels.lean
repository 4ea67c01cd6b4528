/-! best: the levels of the walk -/
theorem fr_close {d : Nat} {P P1 : PI} (h : eqx [1] [2] P P1) : frW d P P1 := ⟨h.2 4 (by decide), fun k _ => by rw [h.1 4 (by decide) (by decide)]⟩
theorem W2_eq {P : PI} {p : Nat} {x : Int64} (h : pv2 P p = some x) : Wv P 2 p = hop P x (p % 16) (p / 16) := by
  unfold Wv; rw [if_pos rfl, h]; rfl
theorem W3_eq {P : PI} {p : Nat} {x : Int64} (h : pv3 P p = some x) : Wv P 3 p = hop P x (p % 16) (p / 256) := by
  unfold Wv; rw [if_neg (by decide), if_pos rfl, h]; rfl
theorem W4_eq {P : PI} {p : Nat} {x : Int64} (h : pv4 P p = some x) : Wv P 4 p = hop P x (p % 16) (p / 4096) := by
  unfold Wv; rw [if_neg (by decide), if_neg (by decide), if_pos rfl, h]; rfl
theorem W2_no {P : PI} {p : Nat} (h : pv2 P p = none) : Wv P 2 p = none := by
  unfold Wv; rw [if_pos rfl, h]; rfl
theorem W3_no {P : PI} {p : Nat} (h : pv3 P p = none) : Wv P 3 p = none := by
  unfold Wv; rw [if_neg (by decide), if_pos rfl, h]; rfl
theorem W4_no {P : PI} {p : Nat} (h : pv4 P p = none) : Wv P 4 p = none := by
  unfold Wv; rw [if_neg (by decide), if_neg (by decide), if_pos rfl, h]; rfl
theorem pv3_no {P : PI} {p : Nat} (h : pv2 P (p / 16) = none) : pv3 P p = none := by unfold pv3; rw [h]; rfl
theorem pv4_no {P : PI} {p : Nat} (h : pv3 P (p / 16) = none) : pv4 P p = none := by unfold pv4; rw [h]; rfl
theorem pv2_e {P : PI} {p e : Nat} (hp : p < 16) (he : e < 16) : pv2 P (16 * p + e) = if usd 1 p e = true then none else hop P 1000000 p e := by
  unfold pv2
  rw [show (16 * p + e) / 16 = p by omega, show (16 * p + e) % 16 = e by omega]
  have : (usd 1 p e = true) ↔ p = e := by
    show (decide (p % 16 = e) || false) = true ↔ _
    rw [Bool.or_false, decide_eq_true_eq]
    omega
  by_cases q : p = e
  · rw [if_pos q, if_pos (this.mpr q)]
  · rw [if_neg q, if_neg (fun z => q (this.mp z))]
theorem pv3_e {P : PI} {p e : Nat} (hp : p < 256) (he : e < 16) {x : Int64} (h : pv2 P p = some x) : pv3 P (16 * p + e) = if usd 2 p e = true then none else hop P x (p % 16) e := by
  unfold pv3
  rw [show (16 * p + e) / 16 = p by omega, show (16 * p + e) % 16 = e by omega, show (16 * p + e) / 256 = p / 16 by omega, h]
  have : (usd 2 p e = true) ↔ (e = p / 16 ∨ e = p % 16) := by
    show (decide (p % 16 = e) || (decide (p / 16 % 16 = e) || false)) = true ↔ _
    rw [Bool.or_false, Bool.or_eq_true, decide_eq_true_eq, decide_eq_true_eq]
    omega
  show (if e = p / 16 ∨ e = p % 16 then none else hop P x (p % 16) e) = _
  by_cases q : e = p / 16 ∨ e = p % 16
  · rw [if_pos q, if_pos (this.mpr q)]
  · rw [if_neg q, if_neg (fun z => q (this.mp z))]
theorem pv4_e {P : PI} {p e : Nat} (hp : p < 4096) (he : e < 16) {x : Int64} (h : pv3 P p = some x) : pv4 P (16 * p + e) = if usd 3 p e = true then none else hop P x (p % 16) e := by
  unfold pv4
  rw [show (16 * p + e) / 16 = p by omega, show (16 * p + e) % 16 = e by omega, show (16 * p + e) / 256 % 16 = p / 16 % 16 by omega, show (16 * p + e) / 4096 = p / 256 by omega, h]
  have : (usd 3 p e = true) ↔ (e = p / 256 ∨ e = p / 16 % 16 ∨ e = p % 16) := by
    show (decide (p % 16 = e) || (decide (p / 16 % 16 = e) || (decide (p / 16 / 16 % 16 = e) || false))) = true ↔ _
    rw [Bool.or_false, Bool.or_eq_true, Bool.or_eq_true, decide_eq_true_eq, decide_eq_true_eq, decide_eq_true_eq]
    omega
  show (if e = p / 256 ∨ e = p / 16 % 16 ∨ e = p % 16 then none else hop P x (p % 16) e) = _
  by_cases q : e = p / 256 ∨ e = p / 16 % 16 ∨ e = p % 16
  · rw [if_pos q, if_pos (this.mpr q)]
  · rw [if_neg q, if_neg (fun z => q (this.mp z))]
/-- a walk of this depth -/
def lvl (n : Nat) (P2 : PI) (d : Nat) (pv : Nat → Option Int64) (lim : Nat) (st en : Nat → Nat) (k : Nat) : Prop :=
  ∀ (p : Nat) (x : Int64) (used : Int32) (P : PI) (L : PL) (b : Option (Nat × Nat × Int64)), p < lim → pv p = some x → uOn used d p → (∀ k, k < d → P 4 k = nI (dl d p k)) → bC P L b → opt (Wv P2) (SK (st p)) b → ∃ (P' : PI) (L' : PL) (b' : Option (Nat × Nat × Int64)), f_Ways_walk k P L P2 (nI d) x used = some (P', L') ∧ bC P' L' b' ∧ opt (Wv P2) (SK (en p)) b' ∧ frW d P P'
theorem lv4 {n : Nat} {P2 PR : PI} (hT : rTables n P2 PR) (k : Nat) : lvl n P2 4 (pv4 P2) 65536 (fun p => 5 * p + 4) (fun p => 5 * p + 5) (k + 1) := by
  intro p x used P L b hp hx hu hr hb ho
  obtain ⟨P1, L1, k1, k2, k3⟩ := wk_b hT (d := 3) (p := p) (by decide) hb hr x used (f_Ways_walk k)
  have e1 : dl 4 p 3 = p % 16 := rfl
  have e0 : dl 4 p 0 = p / 4096 := by
    show p / 16 / 16 / 16 % 16 = p / 4096
    omega
  rw [e1, e0, ← W4_eq hx] at k2
  have ho2 := opt_cl (W := Wv P2) (m := 4) (c := p) (Or.inr (Or.inr ⟨rfl, hp⟩)) (b := b) ho
  refine ⟨P1, L1, _, ?_, k2, ho2, fr_close k3⟩
  show f_Ways_walk_b (f_Ways_walk k) P L P2 (nI 4) x used = _
  rw [k1, if_pos (show nI (3 + 1) = 4 from rfl)]
set_option maxHeartbeats 2000000 in
theorem lv3 {n : Nat} {P2 PR : PI} (hT : rTables n P2 PR) (k : Nat) : lvl n P2 3 (pv3 P2) 4096 (fun p => 80 * p + 3) (fun p => 80 * (p + 1)) (k + 2) := by
  intro p x used P L b hp hx hu hr hb ho
  obtain ⟨P1, L1, k1, k2, k3⟩ := wk_b hT (d := 2) (p := p) (by decide) hb hr x used (f_Ways_walk (k + 1))
  have e1 : dl 3 p 2 = p % 16 := rfl
  have e0 : dl 3 p 0 = p / 256 := by
    show p / 16 / 16 % 16 = p / 256
    omega
  rw [e1, e0, ← W3_eq hx] at k2
  have ho2 := opt_cl (W := Wv P2) (m := 3) (c := p) (Or.inr (Or.inl ⟨rfl, hp⟩)) (b := b) ho
  have k2' : bC P1 L1 (updO (Wv P2 3 p) b 3 p) := k2
  generalize updO (Wv P2 3 p) b 3 p = b1 at k2' ho2
  have q0 : opt (Wv P2) (SK (if 0 = 0 then 80 * p + 4 else 5 * (16 * p + 0))) b1 := by rw [if_pos rfl]; exact ho2
  obtain ⟨P', L', b', m1, m2, m3, m4⟩ := ww_l hT (d := 3) (p := p) ⟨by decide, by decide⟩ (x := x) (used := used) (la := p % 16) (by omega) hu (f_Ways_walk (k + 1)) (fun e b => opt (Wv P2) (SK (if e = 0 then 80 * p + 4 else 5 * (16 * p + e))) b) (by
    intro e b he hs ho
    have pn : pv4 P2 (16 * p + e) = none := by
      rw [pv4_e hp he hx]
      by_cases u : usd 3 p e = true
      · rw [if_pos u]
      · rw [if_neg u]; exact hs.resolve_left u
    rw [if_neg (by omega)]
    refine opt_gap (by split <;> omega) (fun m c hc h1 h2 => ?_) ho
    have kc := key_cases hc
    have : m = 4 ∧ c = 16 * p + e := by
      by_cases e0 : e = 0
      · rw [if_pos e0] at h1; omega
      · rw [if_neg e0] at h1; omega
    rw [this.1, this.2]
    exact W4_no pn) (by
    intro e b y P L he hu2 hh ho hb hr
    have ps : pv4 P2 (16 * p + e) = some y := by rw [pv4_e hp he hx, if_neg (by rw [hu2]; decide)]; exact hh
    obtain ⟨P', L', b', m1, m2, m3, m4⟩ := lv4 hT k (16 * p + e) y (used ||| ((1 : Int32) <<< (nI e &&& 31))) P L b (by omega) ps (uOn_up he hu) hr hb (opt_gap (t2 := 5 * (16 * p + e) + 4) (by split <;> omega) (fun m c hc h1 h2 => by
      have kc := key_cases hc
      exfalso
      by_cases e0 : e = 0
      · rw [if_pos e0] at h1; omega
      · rw [if_neg e0] at h1; omega) ho)
    exact ⟨P', L', b', m1, m2, by rw [if_neg (by omega)]; exact m3, m4⟩) 16 0 mb_fu P1 L1 b1 (by decide) (fu_lt (by decide)) q0 k2' (fun k hk => by rw [k3.1 4 (by decide) (by decide)]; exact hr k hk)
  refine ⟨P', L', b', ?_, m2, ?_, ?_⟩
  · show f_Ways_walk_b (f_Ways_walk (k + 1)) P L P2 (nI 3) x used = _
    rw [k1, if_neg (by decide), e1]
    rw [nI_0] at m1
    exact m1
  · rw [if_neg (by decide)] at m3
    show opt (Wv P2) (SK (80 * (p + 1))) b'
    rw [show 80 * (p + 1) = 5 * (16 * p + 16) by omega]
    exact m3
  · have := fr_close (d := 3) k3
    exact ⟨m4.1.trans this.1, fun k hk => (m4.2 k hk).trans (this.2 k hk)⟩
set_option maxHeartbeats 2000000 in
theorem lv2 {n : Nat} {P2 PR : PI} (hT : rTables n P2 PR) (k : Nat) : lvl n P2 2 (pv2 P2) 256 (fun p => 1280 * p + 2) (fun p => 1280 * (p + 1)) (k + 3) := by
  intro p x used P L b hp hx hu hr hb ho
  obtain ⟨P1, L1, k1, k2, k3⟩ := wk_b hT (d := 1) (p := p) (by decide) hb hr x used (f_Ways_walk (k + 2))
  have e1 : dl 2 p 1 = p % 16 := rfl
  have e0 : dl 2 p 0 = p / 16 := by
    show p / 16 % 16 = p / 16
    omega
  rw [e1, e0, ← W2_eq hx] at k2
  have ho2 := opt_cl (W := Wv P2) (m := 2) (c := p) (Or.inl ⟨rfl, hp⟩) (b := b) ho
  have k2' : bC P1 L1 (updO (Wv P2 2 p) b 2 p) := k2
  generalize updO (Wv P2 2 p) b 2 p = b1 at k2' ho2
  have q0 : opt (Wv P2) (SK (if 0 = 0 then 1280 * p + 3 else 80 * (16 * p + 0))) b1 := by rw [if_pos rfl]; exact ho2
  obtain ⟨P', L', b', m1, m2, m3, m4⟩ := ww_l hT (d := 2) (p := p) ⟨by decide, by decide⟩ (x := x) (used := used) (la := p % 16) (by omega) hu (f_Ways_walk (k + 2)) (fun e b => opt (Wv P2) (SK (if e = 0 then 1280 * p + 3 else 80 * (16 * p + e))) b) (by
    intro e b he hs ho
    have pn : pv3 P2 (16 * p + e) = none := by
      rw [pv3_e hp he hx]
      by_cases u : usd 2 p e = true
      · rw [if_pos u]
      · rw [if_neg u]; exact hs.resolve_left u
    rw [if_neg (by omega)]
    refine opt_gap (by split <;> omega) (fun m c hc h1 h2 => ?_) ho
    have kc := key_cases hc
    have : (m = 3 ∧ c = 16 * p + e) ∨ (m = 4 ∧ c / 16 = 16 * p + e) := by
      by_cases e0 : e = 0
      · rw [if_pos e0] at h1; omega
      · rw [if_neg e0] at h1; omega
    rcases this with ⟨z1, z2⟩ | ⟨z1, z2⟩
    · rw [z1, z2]; exact W3_no pn
    · rw [z1]; exact W4_no (pv4_no (by rw [z2]; exact pn))) (by
    intro e b y P L he hu2 hh ho hb hr
    have ps : pv3 P2 (16 * p + e) = some y := by rw [pv3_e hp he hx, if_neg (by rw [hu2]; decide)]; exact hh
    obtain ⟨P', L', b', m1, m2, m3, m4⟩ := lv3 hT k (16 * p + e) y (used ||| ((1 : Int32) <<< (nI e &&& 31))) P L b (by omega) ps (uOn_up he hu) hr hb (opt_gap (t2 := 80 * (16 * p + e) + 3) (by split <;> omega) (fun m c hc h1 h2 => by
      have kc := key_cases hc
      exfalso
      by_cases e0 : e = 0
      · rw [if_pos e0] at h1; omega
      · rw [if_neg e0] at h1; omega) ho)
    exact ⟨P', L', b', m1, m2, by rw [if_neg (by omega)]; exact m3, m4⟩) 16 0 mb_fu P1 L1 b1 (by decide) (fu_lt (by decide)) q0 k2' (fun k hk => by rw [k3.1 4 (by decide) (by decide)]; exact hr k hk)
  refine ⟨P', L', b', ?_, m2, ?_, ?_⟩
  · show f_Ways_walk_b (f_Ways_walk (k + 2)) P L P2 (nI 2) x used = _
    rw [k1, if_neg (by decide), e1]
    rw [nI_0] at m1
    exact m1
  · rw [if_neg (by decide)] at m3
    show opt (Wv P2) (SK (1280 * (p + 1))) b'
    rw [show 1280 * (p + 1) = 80 * (16 * p + 16) by omega]
    exact m3
  · have := fr_close (d := 2) k3
    exact ⟨m4.1.trans this.1, fun k hk => (m4.2 k hk).trans (this.2 k hk)⟩
set_option maxHeartbeats 2000000 in
theorem lv1 {n : Nat} {P2 PR : PI} (hT : rTables n P2 PR) (k : Nat) : lvl n P2 1 (fun _ => some 1000000) 16 (fun p => 20480 * p) (fun p => 20480 * (p + 1)) (k + 4) := by
  intro p x used P L b hp hx hu hr hb ho
  cases hx
  obtain ⟨P1, L1, k1, k2, k3⟩ := wk_b hT (d := 0) (p := p) (by decide) hb hr 1000000 used (f_Ways_walk (k + 3))
  have e0 : dl 1 p 0 = p := by
    show p % 16 = p
    omega
  have nh : hop P2 1000000 (dl 1 p 0) (dl 1 p 0) = none := by
    cases e : hop P2 1000000 (dl 1 p 0) (dl 1 p 0) with
    | none => rfl
    | some y => exact absurd rfl (hop_ok hT (dl_lt _ _ _) (dl_lt _ _ _) (by decide) e).2.2.2
  have k2' : bC P1 L1 b := by rw [nh] at k2; exact k2
  rw [e0] at k1
  obtain ⟨P', L', b', m1, m2, m3, m4⟩ := ww_l hT (d := 1) (p := p) ⟨by decide, by decide⟩ (x := 1000000) (used := used) (la := p) (by omega) hu (f_Ways_walk (k + 3)) (fun e b => opt (Wv P2) (SK (1280 * (16 * p + e))) b) (by
    intro e b he hs ho
    have pn : pv2 P2 (16 * p + e) = none := by
      rw [pv2_e hp he]
      by_cases u : usd 1 p e = true
      · rw [if_pos u]
      · rw [if_neg u]; exact hs.resolve_left u
    refine opt_gap (by omega) (fun m c hc h1 h2 => ?_) ho
    have kc := key_cases hc
    have : (m = 2 ∧ c = 16 * p + e) ∨ (m = 3 ∧ c / 16 = 16 * p + e) ∨ (m = 4 ∧ c / 16 / 16 = 16 * p + e) := by omega
    rcases this with ⟨z1, z2⟩ | ⟨z1, z2⟩ | ⟨z1, z2⟩
    · rw [z1, z2]; exact W2_no pn
    · rw [z1]; exact W3_no (pv3_no (by rw [z2]; exact pn))
    · rw [z1]; exact W4_no (pv4_no (pv3_no (by rw [z2]; exact pn)))) (by
    intro e b y P L he hu2 hh ho hb hr
    have ps : pv2 P2 (16 * p + e) = some y := by rw [pv2_e hp he, if_neg (by rw [hu2]; decide)]; exact hh
    exact lv2 hT k (16 * p + e) y (used ||| ((1 : Int32) <<< (nI e &&& 31))) P L b (by omega) ps (uOn_up he hu) hr hb (opt_gap (t2 := 1280 * (16 * p + e) + 2) (by omega) (fun m c hc h1 h2 => by
      have kc := key_cases hc
      exfalso
      omega) ho)) 16 0 mb_fu P1 L1 b (by decide) (fu_lt (by decide)) (by rw [show 1280 * (16 * p + 0) = 20480 * p by omega]; exact ho) k2' (fun k hk => by rw [k3.1 4 (by decide) (by decide)]; exact hr k hk)
  refine ⟨P', L', b', ?_, m2, ?_, ?_⟩
  · show f_Ways_walk_b (f_Ways_walk (k + 3)) P L P2 (nI 1) 1000000 used = _
    rw [k1, if_neg (by decide)]
    rw [nI_0] at m1
    exact m1
  · show opt (Wv P2) (SK (20480 * (p + 1))) b'
    rw [show 20480 * (p + 1) = 1280 * (16 * p + 16) by omega]
    exact m3
  · have := fr_close (d := 1) k3
    exact ⟨m4.1.trans this.1, fun k hk => (m4.2 k hk).trans (this.2 k hk)⟩
theorem uOn1 {a : Nat} (ha : a < 16) : uOn ((1 : Int32) <<< (nI a &&& 31)) 1 a := by
  intro i hi
  rw [b_shl a (by omega) _ hi]
  show _ = (decide (a % 16 = i) || false)
  rw [Bool.or_false]
  by_cases q : a ≤ i
  · rw [bt1 _ (by omega), Bool.eq_iff_iff]
    simp only [Bool.and_eq_true, decide_eq_true_eq]
    omega
  · rw [decide_eq_false q, Bool.false_and, decide_eq_false (by omega)]
theorem fd_l {n : Nat} {P2 PR : PI} (hT : rTables n P2 PR) (K : PI → PL → Option (PI × PL)) : ∀ (r a f : Nat) (P : PI) (L : PL) (b : Option (Nat × Nat × Int64)), a + r = 16 → r < f → bC P L b → opt (Wv P2) (SK (20480 * a)) b → ∃ (P' : PI) (L' : PL) (b' : Option (Nat × Nat × Int64)), f_Ways_find_20 P2 K f (nI a) P L = K P' L' ∧ bC P' L' b' ∧ opt (Wv P2) (SK 327680) b' := by
  intro r
  induction r with
  | zero =>
    intro a f P L b e hf hb ho
    obtain ⟨f, rfl⟩ : ∃ m, f = m + 1 := ⟨f - 1, by omega⟩
    have ea : a = 16 := by omega
    subst ea
    refine ⟨P, L, b, ?_, hb, ho⟩
    show f_Ways_find_20_b _ _ _ _ _ _ = _
    unfold f_Ways_find_20_b
    rw [if_pos (by decide)]
  | succ r ih =>
    intro a f P L b e hf hb ho
    obtain ⟨f, rfl⟩ : ∃ m, f = m + 1 := ⟨f - 1, by omega⟩
    obtain ⟨P1, L1, b1, k1, k2, k3, -⟩ := lv1 hT 4 a 1000000 ((1 : Int32) <<< (nI a &&& 31)) (mb_u2 P 4 0 (nI a)) L b (by omega) rfl (uOn1 (by omega)) (fun k hk => by
      have : k = 0 := by omega
      subst this
      rw [u2_ap, if_pos ⟨rfl, rfl⟩]
      show nI a = nI (a % 16)
      rw [show a % 16 = a by omega]) (bC_u4 0 _ hb) ho
    obtain ⟨P', L', b', m1, m2, m3⟩ := ih (a + 1) f P1 L1 b1 (by omega) (by omega) k2 k3
    refine ⟨P', L', b', ?_, m2, m3⟩
    show f_Ways_find_20_b P2 K (f_Ways_find_20 P2 K f) _ _ _ = _
    unfold f_Ways_find_20_b
    have k1' : f_Ways_walk mb_dp (mb_u2 P 4 0 (nI a)) L P2 1 1000000 ((1 : Int32) <<< (nI a &&& 31)) = some (P1, L1) := k1
    rw [if_neg (nge (b := 16) (y := 16) (by omega) (by decide) rfl), k40, letsN, q40, k1', bd2s, letsN, nI_1]
    exact m1
/-- all rows -/
def allC (m c : Nat) : Prop := cand m c
theorem find_c {n : Nat} {P2 PR : PI} (hT : rTables n P2 PR) {P : PI} {L : PL} (hk : P 0 4 = 0) : ∃ (P' : PI) (L' : PL) (b : Option (Nat × Nat × Int64)), f_Ways_find P L P2 = some (P', L') ∧ P' 0 4 = 1 ∧ bC P' L' b ∧ opt (Wv P2) cand b := by
  have k := fun K => fd_l hT K 16 0 mb_fu (mb_uo P 2 0) (mb_uoL L 1 0) none (by decide) (fu_lt (by decide)) (show mb_uo P 2 0 0 2 = 0 by rw [uo_ap, if_pos ⟨rfl, rfl⟩]) (fun m c hs => absurd hs.2 (by omega))
  rw [nI_0] at k
  obtain ⟨P', L', b', k1, k2, k3⟩ := k (fun (P0_4 : PI) (L0_5 : PL) => mb_let (mb_uo P0_4 4 (1 : Int32)) (fun (P0_8 : PI) => some (P0_8, L0_5)))
  refine ⟨mb_uo P' 4 1, L', b', ?_, by rw [uo_ap, if_pos ⟨rfl, rfl⟩], ?_, ?_⟩
  · unfold f_Ways_find
    rw [if_pos hk, letsN, letsN, letsN, jnsN]
    refine Eq.trans k1 ?_
    rw [letsN]
  · cases b' with
    | none =>
      show mb_uo P' 4 1 0 2 = 0
      rw [uo_ap, if_neg (by omega)]; exact k2
    | some t =>
      obtain ⟨m, c, v⟩ := t
      obtain ⟨h1, h2, h3, h4, h5⟩ := k2
      exact ⟨h1, h2, by rw [uo_ap, if_neg (by omega)]; exact h3, h4, fun k hk => by rw [uo_ap, if_neg (by omega)]; exact h5 k hk⟩
  · exact opt_skip (fun m c hs => hs.1) (fun m c hs => Or.inl ⟨hs, by have := key_cases hs; omega⟩) k3
