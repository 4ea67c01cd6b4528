/-! rounds: the class weighs a plan -/
def pat (q : Nat → Bool) : Nat := (q 0).toNat + 2 * (q 1).toNat + 4 * (q 2).toNat
theorem pat_lt (q : Nat → Bool) : pat q < 8 := by
  unfold pat
  cases q 0 <;> cases q 1 <;> cases q 2 <;> decide
theorem pat_tb (q : Nat → Bool) : tb (pat q) 0 = q 0 ∧ tb (pat q) 1 = q 1 ∧ tb (pat q) 2 = q 2 := by
  unfold pat
  cases q 0 <;> cases q 1 <;> cases q 2 <;> decide
/-- the class's row of losses -/
def lT (L3 : Nat → Int64) (Ls : Nat → Bool → Bool → Bool → Int) : Prop := ∀ d, d < 6 → ∀ p, p < 8 → (L3 (d * 8 + p)).toInt = Ls d (tb p 0) (tb p 1) (tb p 2)
def bdL (Ls : Nat → Bool → Bool → Bool → Int) : Prop := ∀ d a b c, 0 ≤ Ls d a b c ∧ Ls d a b c ≤ 48000000000000
theorem lT_pat {L3 : Nat → Int64} {Ls : Nat → Bool → Bool → Bool → Int} (h : lT L3 Ls) {d : Nat} (hd : d < 6) (q : Nat → Bool) : (L3 (d * 8 + pat q)).toInt = lf Ls d q := by
  obtain ⟨a, b, c⟩ := pat_tb q
  rw [h d hd _ (pat_lt q), a, b, c]
  rfl
theorem patC {P : PI} {c d : Nat} (hc : c < 262144) (hd : d < 6) (h : ∀ j, j < 4 → P 4 j = nI (tg c j)) : f_Tours_patternOf P (nI d) = some (nI (pat (fun j => tb (tg c j) d))) := by
  have st : ∀ (j : Nat) (hj : j < 3) (x : Int32) (n : Nat), f_Tours_patternOf_4 P (nI d) (n + 1) x (nI j) = f_Tours_patternOf_4 P (nI d) n (x ||| (nI (tb (tg c j) d).toNat <<< (nI j &&& 31))) (nI (j + 1)) := by
    intro j hj x n
    show f_Tours_patternOf_4_b P (nI d) _ x (nI j) = _
    unfold f_Tours_patternOf_4_b
    rw [if_neg (nge (b := 3) hj (by decide) (y := 3) rfl), chkN (show j < 4 by omega) (by decide), letsN, letsN, nI_clamp (by omega), h j (by omega), tbv _ (tg_lt hc j) d hd, nI_1]
  obtain ⟨f, hf⟩ : ∃ f, mb_fu = f + 4 := ⟨mb_fu - 4, by unfold mb_fu; omega⟩
  unfold f_Tours_patternOf
  rw [letsN, letsN, hf, ← nI_0, st 0 (by decide), st 1 (by decide), st 2 (by decide)]
  show f_Tours_patternOf_4_b P (nI d) _ _ (nI 3) = _
  unfold f_Tours_patternOf_4_b
  rw [if_pos (by decide)]
  unfold pat
  show some _ = some (nI ((tb (tg c 0) d).toNat + 2 * (tb (tg c 1) d).toNat + 4 * (tb (tg c 2) d).toNat))
  generalize tb (tg c 0) d = x
  generalize tb (tg c 1) d = y
  generalize tb (tg c 2) d = z
  cases x <;> cases y <;> cases z <;> decide
/-- the best of the plans seen -/
def bTo (V : Nat → Int) (P : PI) (L : PL) : Option Nat → Prop
  | none => L 0 1 = 9223372036854775807
  | some c => (L 0 1).toInt = V c ∧ ∀ j, j < 4 → P 1 j = nI (tg c j)
theorem ixT (d p : Nat) : nI d * 8 + nI p = nI (d * 8 + p) := by
  rw [show (8 : Int32) = nI 8 from rfl, pk_mul, nI_add]
theorem w51 (L : PL) : ∀ (r i n : Nat) (P : PI), i + r = 4 → r < n → ∃ V : PI, f_Tours_weigh_51 L n (nI i) P = some (V, L) ∧ (∀ q, q ≠ 1 → V q = P q) ∧ (∀ k, i ≤ k → k < 4 → V 1 k = P 4 k) ∧ ∀ k, k < i → V 1 k = P 1 k := by
  intro r
  induction r with
  | zero =>
    intro i n P e hn
    obtain ⟨n, rfl⟩ : ∃ m, n = m + 1 := ⟨n - 1, by omega⟩
    have ei : i = 4 := by omega
    subst ei
    refine ⟨P, ?_, fun _ _ => rfl, fun k a b => absurd b (by omega), fun _ _ => rfl⟩
    show f_Tours_weigh_51_b _ _ _ _ = _
    unfold f_Tours_weigh_51_b
    rw [if_pos (by decide)]
  | succ r ih =>
    intro i n P e hn
    obtain ⟨n, rfl⟩ : ∃ m, n = m + 1 := ⟨n - 1, by omega⟩
    obtain ⟨V, k1, k2, k3, k4⟩ := ih (i + 1) n (mb_u2 P 1 i (P 4 i)) (by omega) (by omega)
    refine ⟨V, ?_, fun q hq => (k2 q hq).trans (u2_ne P _ _ hq), fun k a b => ?_, fun k a => ?_⟩
    · show f_Tours_weigh_51_b _ _ _ _ = _
      unfold f_Tours_weigh_51_b
      rw [if_neg (nge (b := 4) (by omega) (by decide) (y := 4) rfl), chkN (by omega) (by decide), chkN (by omega) (by decide), letsN, letsN, nI_1, nI_clamp (by omega)]
      exact k1
    · by_cases ek : k = i
      · subst ek
        rw [k4 k (by omega), u2_ap, if_pos ⟨rfl, rfl⟩]
      · rw [k3 k (by omega) b, u2_ap, if_neg (by omega)]
    · rw [k4 k (by omega), u2_ap, if_neg (by omega)]
theorem wei_c {Ls : Nat → Bool → Bool → Bool → Int} {P : PI} {L : PL} {c : Nat} {b : Option Nat} (hc : c < 262144) (h : ∀ j, j < 4 → P 4 j = nI (tg c j)) (hT : lT (L 3) Ls) (hB : bdL Ls) (hb : bTo (vp Ls) P L b) : ∃ (P' : PI) (L' : PL), f_Tours_weigh P L = some (P', L') ∧ bTo (vp Ls) P' L' (up1 (vp Ls) b c) ∧ P' 4 = P 4 ∧ L' 3 = L 3 := by
  have st : ∀ (K : Int64 → Option (PI × PL)) (d : Nat) (hd : d < 6) (x : Int64) (n : Nat), f_Tours_weigh_4 P L K (n + 1) x (nI d) = f_Tours_weigh_4 P L K n (x + L 3 (d * 8 + pat (fun j => tb (tg c j) d))) (nI (d + 1)) := by
    intro K d hd x n
    have pl := pat_lt (fun j => tb (tg c j) d)
    show f_Tours_weigh_4_b P L K _ x (nI d) = _
    unfold f_Tours_weigh_4_b
    rw [if_neg (nge (b := 6) hd (by decide) (y := 6) rfl), patC hc hd h, bd1s, ixT, chkN (by omega) (by decide), letsN, letsN, nI_clamp (by omega), nI_1]
  obtain ⟨f, hf⟩ : ∃ f, mb_fu = f + 7 := ⟨mb_fu - 7, by unfold mb_fu; omega⟩
  have sum : ∃ x : Int64, x.toInt = vp Ls c ∧ ∀ K : Int64 → Option (PI × PL), f_Tours_weigh_4 P L K mb_fu 0 (nI 0) = K x := by
    refine ⟨0 + L 3 (0 * 8 + pat (fun j => tb (tg c j) 0)) + L 3 (1 * 8 + pat (fun j => tb (tg c j) 1)) + L 3 (2 * 8 + pat (fun j => tb (tg c j) 2)) + L 3 (3 * 8 + pat (fun j => tb (tg c j) 3)) + L 3 (4 * 8 + pat (fun j => tb (tg c j) 4)) + L 3 (5 * 8 + pat (fun j => tb (tg c j) 5)), ?_, fun K => ?_⟩
    rotate_left
    · rw [hf, st K 0 (by decide), st K 1 (by decide), st K 2 (by decide), st K 3 (by decide), st K 4 (by decide), st K 5 (by decide)]
      show f_Tours_weigh_4_b P L K _ _ (nI 6) = _
      unfold f_Tours_weigh_4_b
      rw [if_pos (by decide)]
    · have e : ∀ d, d < 6 → (L 3 (d * 8 + pat (fun j => tb (tg c j) d))).toInt = vd Ls c d := fun d hd => lT_pat hT hd _
      have g : ∀ d, 0 ≤ vd Ls c d ∧ vd Ls c d ≤ 48000000000000 := fun d => hB d _ _ _
      have e0 := e 0 (by decide)
      have e1 := e 1 (by decide)
      have e2 := e 2 (by decide)
      have e3 := e 3 (by decide)
      have e4 := e 4 (by decide)
      have e5 := e 5 (by decide)
      have g0 := g 0
      have g1 := g 1
      have g2 := g 2
      have g3 := g 3
      have g4 := g 4
      have g5 := g 5
      unfold vp
      generalize L 3 (0 * 8 + pat (fun j => tb (tg c j) 0)) = y0 at *
      generalize L 3 (1 * 8 + pat (fun j => tb (tg c j) 1)) = y1 at *
      generalize L 3 (2 * 8 + pat (fun j => tb (tg c j) 2)) = y2 at *
      generalize L 3 (3 * 8 + pat (fun j => tb (tg c j) 3)) = y3 at *
      generalize L 3 (4 * 8 + pat (fun j => tb (tg c j) 4)) = y4 at *
      generalize L 3 (5 * 8 + pat (fun j => tb (tg c j) 5)) = y5 at *
      have z0 : (0 : Int64).toInt = 0 := rfl
      have s0 : (0 + y0).toInt = vd Ls c 0 := by rw [fb_addL (by omega) (by omega)]; omega
      have s1 : (0 + y0 + y1).toInt = vd Ls c 0 + vd Ls c 1 := by rw [fb_addL (by omega) (by omega)]; omega
      have s2 : (0 + y0 + y1 + y2).toInt = vd Ls c 0 + vd Ls c 1 + vd Ls c 2 := by rw [fb_addL (by omega) (by omega)]; omega
      have s3 : (0 + y0 + y1 + y2 + y3).toInt = vd Ls c 0 + vd Ls c 1 + vd Ls c 2 + vd Ls c 3 := by rw [fb_addL (by omega) (by omega)]; omega
      have s4 : (0 + y0 + y1 + y2 + y3 + y4).toInt = vd Ls c 0 + vd Ls c 1 + vd Ls c 2 + vd Ls c 3 + vd Ls c 4 := by rw [fb_addL (by omega) (by omega)]; omega
      rw [fb_addL (by omega) (by omega)]; omega
  obtain ⟨x, hx, hk⟩ := sum
  have hx2 : x.toInt ≤ 288000000000000 := by
    have g : ∀ d, 0 ≤ vd Ls c d ∧ vd Ls c d ≤ 48000000000000 := fun d => hB d _ _ _
    have g0 := g 0
    have g1 := g 1
    have g2 := g 2
    have g3 := g 3
    have g4 := g 4
    have g5 := g 5
    rw [hx]
    unfold vp
    omega
  have ew : f_Tours_weigh P L = (if (lg_cmp x (L 0 1)) < 0 then mb_let (mb_uoL L 1 x) (fun (L0_6 : PL) => mb_let (0 : Int32) (fun (x3_7 : Int32) => f_Tours_weigh_51 L0_6 mb_fu x3_7 P)) else some (P, L)) := by
    unfold f_Tours_weigh
    rw [letsN, letsN, jnsN, ← nI_0]
    exact hk _
  rw [ew]
  by_cases q : x.toInt < (L 0 1).toInt
  · rw [if_pos ((lg_cmp_lt _ _).mpr (Int64.lt_iff_toInt_lt.mpr q)), letsN, letsN]
    obtain ⟨V, k1, k2, k3, -⟩ := w51 (mb_uoL L 1 x) 4 0 mb_fu P (by omega) (fu_lt (by omega))
    refine ⟨V, mb_uoL L 1 x, k1, ?_, k2 4 (by decide), ?_⟩
    · have new : bTo (vp Ls) V (mb_uoL L 1 x) (some c) := by
        refine ⟨?_, fun j hj => ?_⟩
        · rw [uoL_ap, if_pos ⟨rfl, rfl⟩]; exact hx
        · rw [k3 j (by omega) hj]; exact h j hj
      cases b with
      | none => exact new
      | some c0 =>
        show bTo _ _ _ (if vp Ls c < vp Ls c0 then some c else some c0)
        rw [if_pos (by rw [← hx, ← hb.1]; exact q)]
        exact new
    · funext j
      rw [uoL_ap, if_neg (by omega)]
  · rw [if_neg (fun z => q (Int64.lt_iff_toInt_lt.mp ((lg_cmp_lt _ _).mp z)))]
    refine ⟨P, L, rfl, ?_, rfl, rfl⟩
    cases b with
    | none =>
      exfalso
      rw [show L 0 1 = 9223372036854775807 from hb] at q
      apply q
      rw [show (9223372036854775807 : Int64).toInt = 9223372036854775807 from by decide]
      omega
    | some c0 =>
      show bTo _ _ _ (if vp Ls c < vp Ls c0 then some c else some c0)
      rw [if_neg (by rw [← hx, ← hb.1]; exact q)]
      exact hb
/-! where a visit saves something -/
theorem orb : ∀ h, h < 64 → ∀ d, d < 6 → h < 2 ^ d → nI h ||| ((1 : Int32) <<< (nI d &&& 31)) = nI (h + 2 ^ d) ∧ h + 2 ^ d < 2 ^ (d + 1) ∧ ∀ e, e < 6 → tb (h + 2 ^ d) e = if e = d then true else tb h e := by decide +kernel
theorem tb_hi : ∀ h, h < 64 → ∀ d, d < 6 → h < 2 ^ d → ∀ e, e < 6 → d ≤ e → tb h e = false := by decide +kernel
theorem pat_or {c t d : Nat} (ht : t < 3) (hz : ∀ j, t ≤ j → tg c j = 0) : pat (fun j => tb (tg c j) d) = pat (bef c t d) ∧ nI (pat (bef c t d)) ||| ((1 : Int32) <<< (nI t &&& 31)) = nI (pat (wth c t d)) := by
  have z : ∀ j, t ≤ j → tb (tg c j) d = false := fun j hj => by rw [hz j hj]; exact Nat.zero_testBit d
  rcases (show t = 0 ∨ t = 1 ∨ t = 2 by omega) with rfl | rfl | rfl
  · refine ⟨?_, (by decide : nI 0 ||| ((1 : Int32) <<< (nI 0 &&& 31)) = nI 1)⟩
    show (tb (tg c 0) d).toNat + 2 * (tb (tg c 1) d).toNat + 4 * (tb (tg c 2) d).toNat = _
    rw [z 0 (by omega), z 1 (by omega), z 2 (by omega)]
    rfl
  · constructor
    · show (tb (tg c 0) d).toNat + 2 * (tb (tg c 1) d).toNat + 4 * (tb (tg c 2) d).toNat = _
      rw [z 1 (by omega), z 2 (by omega)]
      rfl
    · show nI ((tb (tg c 0) d).toNat + 2 * 0 + 4 * 0) ||| ((1 : Int32) <<< (nI 1 &&& 31)) = nI ((tb (tg c 0) d).toNat + 2 * 1 + 4 * 0)
      generalize tb (tg c 0) d = x
      cases x <;> decide
  · constructor
    · show (tb (tg c 0) d).toNat + 2 * (tb (tg c 1) d).toNat + 4 * (tb (tg c 2) d).toNat = _
      rw [z 2 (by omega)]
      rfl
    · show nI ((tb (tg c 0) d).toNat + 2 * (tb (tg c 1) d).toNat + 4 * 0) ||| ((1 : Int32) <<< (nI 2 &&& 31)) = nI ((tb (tg c 0) d).toNat + 2 * (tb (tg c 1) d).toNat + 4 * 1)
      generalize tb (tg c 0) d = x
      generalize tb (tg c 1) d = y
      cases x <;> cases y <;> decide
theorem wor_l {Ls : Nat → Bool → Bool → Bool → Int} {P : PI} {L : PL} {c t : Nat} (hc : c < 262144) (ht : t < 3) (h : ∀ j, j < 4 → P 4 j = nI (tg c j)) (hz : ∀ j, t ≤ j → tg c j = 0) (hT : lT (L 3) Ls) : ∀ (r d n g : Nat), d + r = 6 → r < n → g < 2 ^ d → (∀ e, e < d → (tb g e = true ↔ wo Ls t c e)) → ∃ g', f_Tours_worthwhileIn_4 P L (nI t) n (nI g) (nI d) = some (nI g') ∧ g' < 64 ∧ ∀ e, e < 6 → (tb g' e = true ↔ wo Ls t c e) := by
  intro r
  induction r with
  | zero =>
    intro d n g e hn hg hh
    obtain ⟨n, rfl⟩ : ∃ m, n = m + 1 := ⟨n - 1, by omega⟩
    have ed : d = 6 := by omega
    subst ed
    refine ⟨g, ?_, hg, hh⟩
    show f_Tours_worthwhileIn_4_b _ _ _ _ _ _ = _
    unfold f_Tours_worthwhileIn_4_b
    rw [if_pos (by decide)]
  | succ r ih =>
    intro d n g e hn hg hh
    obtain ⟨n, rfl⟩ : ∃ m, n = m + 1 := ⟨n - 1, by omega⟩
    have hd : d < 6 := by omega
    have g64 : g < 64 := Nat.lt_of_lt_of_le hg (Nat.pow_le_pow_right (n := 2) (by decide) (show d ≤ 6 by omega))
    obtain ⟨p1, p2⟩ := pat_or (d := d) ht hz
    have l1 := pat_lt (bef c t d)
    have l2 := pat_lt (wth c t d)
    have v1 := lT_pat hT hd (bef c t d)
    have v2 := lT_pat hT hd (wth c t d)
    show ∃ g', f_Tours_worthwhileIn_4_b P L (nI t) (f_Tours_worthwhileIn_4 P L (nI t) n) (nI g) (nI d) = some (nI g') ∧ _
    unfold f_Tours_worthwhileIn_4_b
    rw [if_neg (nge (b := 6) hd (by decide) (y := 6) rfl), patC hc hd h, bd1s, letsN, p1, p2, ixT, ixT, chkN (by omega) (by decide), chkN (by omega) (by decide), nI_clamp (by omega), nI_clamp (by omega), letsN, letsN, letsN, nI_1]
    by_cases q : wo Ls t c d
    · have q1 : ¬ 0 ≤ lg_cmp (L 3 (d * 8 + pat (wth c t d))) (L 3 (d * 8 + pat (bef c t d))) := fun z => by
        have a := Int64.le_iff_toInt_le.mp ((lg_cmp_ge _ _).mp z)
        have b : lf Ls d (wth c t d) < lf Ls d (bef c t d) := q
        omega
      obtain ⟨o1, o2, o3⟩ := orb g g64 d hd hg
      rw [if_neg q1, o1]
      refine ih (d + 1) n (g + 2 ^ d) (by omega) (by omega) o2 (fun e he => ?_)
      rw [o3 e (by omega)]
      by_cases ee : e = d
      · rw [if_pos ee, ee]; exact ⟨fun _ => q, fun _ => rfl⟩
      · rw [if_neg ee]; exact hh e (by omega)
    · have q1 : 0 ≤ lg_cmp (L 3 (d * 8 + pat (wth c t d))) (L 3 (d * 8 + pat (bef c t d))) := (lg_cmp_ge _ _).mpr (Int64.le_iff_toInt_le.mpr (by
        have b : ¬ lf Ls d (wth c t d) < lf Ls d (bef c t d) := q
        omega))
      rw [if_pos q1]
      refine ih (d + 1) n g (by omega) (by omega) (Nat.lt_of_lt_of_le hg (Nat.pow_le_pow_right (n := 2) (by decide) (by omega))) (fun e he => ?_)
      by_cases ee : e = d
      · rw [ee, tb_hi g g64 d hd hg d hd (Nat.le_refl _)]
        exact ⟨fun z => (by cases z), fun z => absurd z q⟩
      · exact hh e (by omega)
theorem wor_c {Ls : Nat → Bool → Bool → Bool → Int} {P : PI} {L : PL} {c t : Nat} (hc : c < 262144) (ht : t < 3) (h : ∀ j, j < 4 → P 4 j = nI (tg c j)) (hz : ∀ j, t ≤ j → tg c j = 0) (hT : lT (L 3) Ls) : ∃ g, f_Tours_worthwhileIn P L (nI t) = some (nI g) ∧ g < 64 ∧ ∀ e, e < 6 → (tb g e = true ↔ wo Ls t c e) := by
  unfold f_Tours_worthwhileIn
  rw [letsN, letsN, ← nI_0]
  exact wor_l hc ht h hz hT 6 0 mb_fu 0 (by omega) (fu_lt (by omega)) (by decide) (fun e he => absurd he (by omega))
