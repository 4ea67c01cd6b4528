/-! rounds: the class walks the plans -/
def mu (t : Nat) : Nat := if t = 0 then 262144 else if t = 1 then 4096 else if t = 2 then 64 else 1
theorem mu_ut {t : Nat} (ht : t < 3) : mu t = 64 * ut t ∧ mu (t + 1) = ut t := by
  rcases (show t = 0 ∨ t = 1 ∨ t = 2 by omega) with rfl | rfl | rfl <;> exact ⟨rfl, rfl⟩
theorem t012 {t : Nat} (ht : t ≤ 3) : t = 0 ∨ t = 1 ∨ t = 2 ∨ t = 3 := by omega
theorem tg0 (c : Nat) : tg c 0 = c / 4096 := rfl
theorem tg1 (c : Nat) : tg c 1 = c / 64 % 64 := rfl
theorem tg2 (c : Nat) : tg c 2 = c % 64 := rfl
theorem tg_hi (c : Nat) {j : Nat} (h : 3 ≤ j) : tg c j = 0 := by
  unfold tg
  rw [if_neg (by omega), if_neg (by omega), if_neg (by omega)]
theorem tg_inj {c x : Nat} (h : ∀ j, j < 3 → tg x j = tg c j) : x = c := by
  have a := h 0 (by decide)
  have b := h 1 (by decide)
  have d := h 2 (by decide)
  rw [tg0, tg0] at a
  rw [tg1, tg1] at b
  rw [tg2, tg2] at d
  omega
theorem tg_mod {c t : Nat} (ht : t ≤ 3) (hc : c < 262144) (hm : c % mu t = 0) : ∀ j, t ≤ j → tg c j = 0 := by
  intro j hj
  by_cases h3 : 3 ≤ j
  · exact tg_hi c h3
  rcases t012 ht with rfl | rfl | rfl | rfl
  · rw [show mu 0 = 262144 from rfl] at hm
    have : c = 0 := by omega
    subst this
    rcases (show j = 0 ∨ j = 1 ∨ j = 2 by omega) with rfl | rfl | rfl <;> rfl
  · rw [show mu 1 = 4096 from rfl] at hm
    rcases (show j = 1 ∨ j = 2 by omega) with rfl | rfl
    · rw [tg1]; omega
    · rw [tg2]; omega
  · rw [show mu 2 = 64 from rfl] at hm
    have : j = 2 := by omega
    rw [this, tg2]; omega
  · omega
theorem tg_blk {c x t : Nat} (ht : t ≤ 3) (hm : c % mu t = 0) (h1 : c ≤ x) (h2 : x < c + mu t) (hx : x < 262144) : ∀ j, j < t → tg x j = tg c j := by
  intro j hj
  rcases t012 ht with rfl | rfl | rfl | rfl
  · omega
  · rw [show mu 1 = 4096 from rfl] at hm h2
    have : j = 0 := by omega
    rw [this, tg0, tg0]; omega
  · rw [show mu 2 = 64 from rfl] at hm h2
    rcases (show j = 0 ∨ j = 1 by omega) with rfl | rfl
    · rw [tg0, tg0]; omega
    · rw [tg1, tg1]; omega
  · rw [show mu 3 = 1 from rfl] at h2
    rw [show x = c by omega]
theorem wo_cong {Ls : Nat → Bool → Bool → Bool → Int} {t x y d : Nat} (h : ∀ j, j < t → tg x j = tg y j) : wo Ls t x d ↔ wo Ls t y d := by
  have e : bef x t d = bef y t d := by
    funext j
    unfold bef
    by_cases q : j < t
    · rw [h j q]
    · rw [decide_eq_false q, Bool.false_and, Bool.false_and]
  have e2 : wth x t d = wth y t d := by
    funext j
    unfold wth
    rw [e]
  unfold wo
  rw [e, e2]
theorem okd_cong {Ls : Nat → Bool → Bool → Bool → Int} {w k t x y : Nat} (h : ∀ j, j ≤ t → tg x j = tg y j) (a : okd Ls w k t x) : okd Ls w k t y := by
  refine ⟨fun q => ?_, fun q => ?_⟩
  · obtain ⟨b, c⟩ := a.1 q
    rw [h t (Nat.le_refl _)] at b c
    exact ⟨b, fun d hd z => (wo_cong (fun j hj => h j (by omega))).mp (c d hd z)⟩
  · rw [← h t (Nat.le_refl _)]
    exact a.2 q
theorem bTo_cong {V : Nat → Int} {P U : PI} {L : PL} {b : Option Nat} (e : U 1 = P 1) (h : bTo V P L b) : bTo V U L b := by
  cases b with
  | none => exact h
  | some c => exact ⟨h.1, fun j hj => by rw [e]; exact h.2 j hj⟩
def lev (Ls : Nat → Bool → Bool → Bool → Int) (w k n t : Nat) : Prop := ∀ (c : Nat) (P : PI) (L : PL) (b : Option Nat), c < 262144 → c % mu t = 0 → (∀ j, j < 4 → P 4 j = nI (tg c j)) → (∀ j, j < t → okd Ls w k j c) → bTo (vp Ls) P L b → lT (L 3) Ls → op1 (vp Ls) (fun x => vis Ls w k x ∧ x < c) b → ∃ (P' : PI) (L' : PL) (b' : Option Nat), f_Tours_choose n P L (nI t) (nI (w - 1)) (nI k) = some (P', L') ∧ (∀ j, j < 4 → P' 4 j = nI (tg c j)) ∧ L' 3 = L 3 ∧ bTo (vp Ls) P' L' b' ∧ op1 (vp Ls) (fun x => vis Ls w k x ∧ x < c + mu t) b'
theorem lev_leaf {Ls : Nat → Bool → Bool → Bool → Int} (hB : bdL Ls) {w k n t : Nat} (hw : w ≤ 4) (ht : t + 1 = w) : lev Ls w k (n + 1) t := by
  intro c P L b hc hm hd ho hb hT hop
  obtain ⟨P', L', k1, k2, k3, k4⟩ := wei_c hc hd hT hB hb
  have t3 : t ≤ 3 := by omega
  have z := tg_mod t3 hc hm
  have vc : vis Ls w k c := by
    refine ⟨hc, fun j hj => ?_⟩
    by_cases q : j < t
    · exact ho j q
    · exact ⟨fun a => absurd a (by omega), fun _ => z j (by omega)⟩
  have m1 : 1 ≤ mu t := by rcases t012 t3 with rfl | rfl | rfl | rfl <;> decide
  refine ⟨P', L', up1 (vp Ls) b c, ?_, fun j hj => by rw [k3]; exact hd j hj, k4, k2, ?_⟩
  · show f_Tours_choose_b (f_Tours_choose n) P L (nI t) (nI (w - 1)) (nI k) = _
    unfold f_Tours_choose_b
    rw [jnsN, if_pos (nI_le (by omega) (by omega)), k1, bd2s]
  · refine op1_add (fun x hx => ⟨hx.1, by have := hx.2; omega⟩) (fun x hx => ?_) ⟨vc, by omega⟩ (fun x hx => hx.2) hop
    by_cases q : x < c
    · exact Or.inl ⟨hx.1, q⟩
    · right
      have blk := tg_blk t3 hm (by omega) hx.2 hx.1.1
      refine tg_inj (fun j hj => ?_)
      by_cases jt : j < t
      · exact blk j jt
      · rw [z j (by omega)]
        exact (hx.1.2 j hj).2 (by omega)
set_option maxHeartbeats 1000000 in
theorem ch_l {Ls : Nat → Bool → Bool → Bool → Int} {w k n0 t c g : Nat} (hk : k ≤ 2) (ht : t < 3) (htw : t + 1 < w) (hl : lev Ls w k n0 (t + 1)) (hc : c < 262144) (hm : c % mu t = 0) (ho : ∀ j, j < t → okd Ls w k j c) (hg : g < 64) (hgw : ∀ e, e < 6 → (tb g e = true ↔ wo Ls t c e)) (K : PI → PL → Option (PI × PL)) (L3 : Nat → Int64) (hT : lT L3 Ls) : ∀ (r s f : Nat) (P : PI) (L : PL) (b : Option Nat), s + r = g + 1 → r < f → (∀ j, j < 4 → j ≠ t → P 4 j = nI (tg c j)) → bTo (vp Ls) P L b → L 3 = L3 → op1 (vp Ls) (fun x => vis Ls w k x ∧ x < c + s * ut t) b → ∃ (P' : PI) (L' : PL) (b' : Option Nat), f_Tours_choose_25 (nI t) (nI (w - 1)) (nI k) (nI g) (f_Tours_choose n0) K f (nI s) P L = K P' L' ∧ (∀ j, j < 4 → j ≠ t → P' 4 j = nI (tg c j)) ∧ L' 3 = L3 ∧ bTo (vp Ls) P' L' b' ∧ op1 (vp Ls) (fun x => vis Ls w k x ∧ x < c + mu t) b' := by
  obtain ⟨mu1, mu2⟩ := mu_ut ht
  have hmu : c % (64 * ut t) = 0 := by rw [← mu1]; exact hm
  have upos : 0 < ut t := by rcases (show t = 0 ∨ t = 1 ∨ t = 2 by omega) with rfl | rfl | rfl <;> decide
  -- what lies in a block
  have blk : ∀ s x, c + s * ut t ≤ x → x < c + (s + 1) * ut t → s < 64 → x < 262144 → tg x t = s ∧ ∀ j, j < t → tg x j = tg c j := by
    intro s x h1 h2 hs hx
    obtain ⟨a1, a2⟩ := tg_add ht hc hmu hs
    have md : (c + s * ut t) % mu (t + 1) = 0 := by
      rw [mu2, Nat.add_mul_mod_self_right]
      exact Nat.mod_eq_zero_of_dvd (Nat.dvd_trans (Nat.dvd_mul_left _ _) (Nat.dvd_of_mod_eq_zero hmu))
    have e := tg_blk (t := t + 1) (by omega) md h1 (by rw [mu2]; rw [Nat.succ_mul] at h2; omega) hx
    refine ⟨by rw [e t (by omega), a2, if_pos rfl], fun j hj => by rw [e j (by omega), a2, if_neg (by omega)]⟩
  intro r
  induction r with
  | zero =>
    intro s f P L b e hf hd hb h3 hop
    obtain ⟨f, rfl⟩ : ∃ m, f = m + 1 := ⟨f - 1, by omega⟩
    refine ⟨P, L, b, ?_, hd, h3, hb, ?_⟩
    · show f_Tours_choose_25_b _ _ _ _ _ _ _ _ _ _ = _
      unfold f_Tours_choose_25_b
      rw [if_pos (nI_lt (by omega) (by omega))]
    · refine op1_cong (fun x hx => ⟨hx.1, ?_⟩) (fun x hx => ⟨hx.1, ?_⟩) hop
      · have h1 : s * ut t ≤ 64 * ut t := Nat.mul_le_mul_right _ (by omega)
        have := hx.2
        rw [mu1]
        omega
      · have hx2 := hx.2
        rw [mu1] at hx2
        apply Classical.byContradiction
        intro q
        -- its set at t lies behind g
        have hq : c + s * ut t ≤ x := by omega
        have dv : (x - c) / ut t < 64 := Nat.div_lt_of_lt_mul (by rw [Nat.mul_comm]; omega)
        have d1 : (x - c) / ut t * ut t ≤ x - c := Nat.div_mul_le_self _ _
        have d2 : x - c < ((x - c) / ut t + 1) * ut t := by
          rw [Nat.succ_mul]
          have := Nat.div_add_mod (x - c) (ut t)
          have lt := Nat.mod_lt (x - c) upos
          rw [Nat.mul_comm] at this
          omega
        have d3 : s ≤ (x - c) / ut t := (Nat.le_div_iff_mul_le upos).mpr (by omega)
        obtain ⟨b1, b2⟩ := blk ((x - c) / ut t) x (by omega) (by omega) dv hx.1.1
        have ok := ((hx.1.2 t ht).1 htw).2
        have := sub_le _ dv g hg (fun d hd z => (hgw d hd).mpr ((wo_cong b2).mp (ok d hd (by rw [b1]; exact z))))
        omega
  | succ r ih =>
    intro s f P L b e hf hd hb h3 hop
    obtain ⟨f, rfl⟩ : ∃ m, f = m + 1 := ⟨f - 1, by omega⟩
    have hs : s < 64 := by omega
    have sg : ¬ nI g < nI s := fun z => by
      have := Int32.lt_iff_toInt_lt.mp z
      rw [nI_toInt (by omega), nI_toInt (by omega)] at this
      omega
    show ∃ (P' : PI) (L' : PL) (b' : Option Nat), f_Tours_choose_25_b (nI t) (nI (w - 1)) (nI k) (nI g) (f_Tours_choose n0) K (f_Tours_choose_25 (nI t) (nI (w - 1)) (nI k) (nI g) (f_Tours_choose n0) K f) (nI s) P L = K P' L' ∧ _
    unfold f_Tours_choose_25_b
    rw [if_neg sg, bc_c s hs, bd1s, nI_1, nI_1]
    have skip : ¬ ((∀ d, d < 6 → tb s d = true → tb g d = true) ∧ pc s ≤ k) → op1 (vp Ls) (fun x => vis Ls w k x ∧ x < c + (s + 1) * ut t) b := by
      intro q
      refine op1_cong (fun x hx => ⟨hx.1, ?_⟩) (fun x hx => ⟨hx.1, ?_⟩) hop
      · have := hx.2
        rw [Nat.succ_mul]
        omega
      · apply Classical.byContradiction
        intro y
        obtain ⟨b1, b2⟩ := blk s x (by omega) hx.2 hs hx.1.1
        have ok := (hx.1.2 t ht).1 htw
        rw [b1] at ok
        exact q ⟨fun d hd z => (hgw d hd).mpr ((wo_cong b2).mp (ok.2 d hd z)), ok.1⟩
    by_cases q1 : ∀ d, d < 6 → tb s d = true → tb g d = true
    · rw [if_pos ((sub_c s hs g hg).mpr q1)]
      by_cases q2 : pc s ≤ k
      · rw [if_pos (nI_le q2 (by omega)), chkN (by omega) (by decide), letsN, nI_clamp (by omega)]
        obtain ⟨a1, a2⟩ := tg_add ht hc hmu hs
        have md : (c + s * ut t) % mu (t + 1) = 0 := by
          rw [mu2, Nat.add_mul_mod_self_right]
          exact Nat.mod_eq_zero_of_dvd (Nat.dvd_trans (Nat.dvd_mul_left _ _) (Nat.dvd_of_mod_eq_zero hmu))
        have okt : okd Ls w k t (c + s * ut t) := by
          refine ⟨fun _ => ?_, fun y => absurd y (by omega)⟩
          rw [a2, if_pos rfl]
          exact ⟨q2, fun d hd z => (wo_cong (fun j hj => by rw [a2, if_neg (by omega)])).mpr ((hgw d hd).mp (q1 d hd z))⟩
        obtain ⟨P1, L1, b1, l1, l2, l3, l4, l5⟩ := hl (c + s * ut t) (mb_u2 P 4 t (nI s)) L b a1 md (fun j hj => by
          rw [u2_ap, a2]
          by_cases y : j = t
          · rw [if_pos ⟨rfl, y⟩, if_pos y]
          · rw [if_neg (fun z => y z.2), if_neg y]
            exact hd j hj y) (fun j hj => by
          by_cases y : j = t
          · rw [y]; exact okt
          · exact okd_cong (fun i hi => by rw [a2, if_neg (by omega)]) (ho j (by omega))) (bTo_cong (u2_ne P _ _ (by decide)) hb) (by rw [h3]; exact hT) hop
        rw [l1, bd2s, letsN]
        refine ih (s + 1) f P1 L1 b1 (by omega) (by omega) (fun j hj y => ?_) l4 (l3.trans h3) ?_
        · rw [l2 j hj, a2, if_neg y]
        · refine op1_cong (fun x hx => ⟨hx.1, ?_⟩) (fun x hx => ⟨hx.1, ?_⟩) l5
          · have := hx.2
            rw [mu2] at this
            rw [Nat.succ_mul]
            omega
          · have := hx.2
            rw [Nat.succ_mul] at this
            rw [mu2]
            omega
      · have pl := pc_le s hs
        rw [if_neg (nI_ge (by omega) (by omega)), letsN]
        exact ih (s + 1) f P L b (by omega) (by omega) hd hb h3 (skip (fun z => q2 z.2))
    · rw [if_neg (fun z => q1 ((sub_c s hs g hg).mp z)), letsN]
      exact ih (s + 1) f P L b (by omega) (by omega) hd hb h3 (skip (fun z => q1 z.1))
theorem lev_up {Ls : Nat → Bool → Bool → Bool → Int} {w k n t : Nat} (hk : k ≤ 2) (hw : w ≤ 4) (htw : t + 1 < w) (hl : lev Ls w k n (t + 1)) : lev Ls w k (n + 1) t := by
  intro c P L b hc hm hd ho hb hT hop
  have ht : t < 3 := by omega
  have z := tg_mod (by omega) hc hm
  obtain ⟨g, g1, g2, g3⟩ := wor_c hc ht hd z hT
  obtain ⟨P', L', b', k1, k2, k3, k4, k5⟩ := ch_l hk ht htw hl hc hm ho g2 g3 (fun (P0_8 : PI) (L0_9 : PL) => mb_chk (nI t) 4 (mb_let (mb_u2 P0_8 4 (nI t).toNatClampNeg (0 : Int32)) (fun (P0_12 : PI) => some (P0_12, L0_9)))) (L 3) hT (g + 1) 0 mb_fu P L b (by omega) (fu_lt (by omega)) (fun j hj _ => hd j hj) hb rfl (op1_cong (fun x hx => ⟨hx.1, by have := hx.2; omega⟩) (fun x hx => ⟨hx.1, by have := hx.2; omega⟩) hop)
  refine ⟨mb_u2 P' 4 t 0, L', b', ?_, fun j hj => ?_, k3, bTo_cong (u2_ne P' _ _ (by decide)) k4, k5⟩
  · show f_Tours_choose_b (f_Tours_choose n) P L (nI t) (nI (w - 1)) (nI k) = _
    unfold f_Tours_choose_b
    rw [jnsN, if_neg (nI_ge (by omega) (by omega)), if_pos (lt_nI (b := 3) ht (by decide) (y := 3) rfl), g1, bd1s, letsN, letsN, jnsN]
    rw [← nI_0]
    refine k1.trans ?_
    rw [chkN (by omega) (by decide), letsN, nI_clamp (by omega)]
    rfl
  · rw [u2_ap]
    by_cases y : j = t
    · rw [if_pos ⟨rfl, y⟩, z j (by omega)]; rfl
    · rw [if_neg (fun x => y x.2)]
      exact k2 j hj y
theorem lev_0 {Ls : Nat → Bool → Bool → Bool → Int} (hB : bdL Ls) {w k : Nat} (hk : k ≤ 2) (hw : 1 ≤ w ∧ w ≤ 4) : lev Ls w k mb_dp 0 := by
  rcases (show w = 1 ∨ w = 2 ∨ w = 3 ∨ w = 4 by omega) with rfl | rfl | rfl | rfl
  · exact lev_leaf hB (n := 7) (by omega) (by omega)
  · exact lev_up (n := 7) hk (by omega) (by omega) (lev_leaf hB (n := 6) (by omega) (by omega))
  · exact lev_up (n := 7) hk (by omega) (by omega) (lev_up (n := 6) hk (by omega) (by omega) (lev_leaf hB (n := 5) (by omega) (by omega)))
  · exact lev_up (n := 7) hk (by omega) (by omega) (lev_up (n := 6) hk (by omega) (by omega) (lev_up (n := 5) hk (by omega) (by omega) (lev_leaf hB (n := 4) (by omega) (by omega))))
theorem seek_c {Ls : Nat → Bool → Bool → Bool → Int} (hB : bdL Ls) (hL : dim Ls) {w k : Nat} (hk : k ≤ 2) (hw : 1 ≤ w ∧ w ≤ 4) {P : PI} {L : PL} (hT : lT (L 3) Ls) : ∃ (P' : PI) (L' : PL) (b : Option Nat), f_Tours_seek P L (nI w) (nI k) = some (P', L') ∧ bTo (vp Ls) P' L' b ∧ op1 (vp Ls) (cnd w k) b := by
  have l3 : mb_uoL L 1 (9223372036854775807 : Int64) 3 = L 3 := by
    funext j
    rw [uoL_ap, if_neg (by omega)]
  obtain ⟨P', L', b, k1, -, -, k4, k5⟩ := lev_0 hB hk hw 0 (mb_up P 4 (mb_fill 4 (0 : Int32) (P 4))) (mb_uoL L 1 (9223372036854775807 : Int64)) none (by decide) (by decide) (fun j hj => by
    have e : tg 0 j = 0 := by
      rcases (show j = 0 ∨ j = 1 ∨ j = 2 ∨ j = 3 by omega) with rfl | rfl | rfl | rfl <;> rfl
    rw [e]
    show mb_fill 4 (0 : Int32) (P 4) j = _
    unfold mb_fill
    rw [if_pos hj]
    rfl) (fun j hj => absurd hj (by omega)) (by show mb_uoL L 1 _ 0 1 = _; rw [uoL_ap, if_pos ⟨rfl, rfl⟩]) (by rw [l3]; exact hT) (fun c hs => absurd hs.2 (by omega))
  refine ⟨P', L', b, ?_, k4, vis_all hL (op1_cong (fun x hx => hx.1) (fun x hx => ⟨hx, by rw [show mu 0 = 262144 from rfl]; have := hx.1; omega⟩) k5)⟩
  unfold f_Tours_seek
  rw [letsN, letsN, show nI w - 1 = nI (w - 1) from pk_sub (a := w) (b := 1) hw.1]
  rw [nI_0] at k1
  rw [k1, bd2s]
