/-! the people -/
theorem nge {a b : Nat} (h : a < b) (hb : b < 2 ^ 31) {y : Int32} (hy : y = nI b) : ¬ y ≤ nI a := by rw [hy]; exact nI_ge h hb
def chg (q o y : Int32) : Int32 := o * q / 1000 - (if o - o * q / 1000 ≤ y + o * q / 1000 then 0 else (y + o * q / 1000) * 5 / 1000)
def itr (q : Int32) : Nat → Int32 → Int32 → Int32 × Int32
  | 0, o, y => (o, y)
  | r + 1, o, y => itr q r (o - chg q o y) (y + chg q o y)
def sB (f : Nat → Int32) : Nat → Nat → Int32 → Int32
  | 0, _, a => a
  | r + 1, d, a => sB f r (d + 1) (a + f d)
theorem sB_cong {f g : Nat → Int32} : ∀ (r d : Nat) (a : Int32), (∀ k, d ≤ k → k < d + r → f k = g k) → sB f r d a = sB g r d a
  | 0, _, _, _ => rfl
  | r + 1, d, a, h => by
    rw [sB, sB, h d (by omega) (by omega)]
    exact sB_cong r (d + 1) _ (fun k h1 h2 => h k (by omega) (by omega))
theorem i32a (o l f : Int32) : o - l + f = o - (l - f) := by
  apply Int32.toBitVec_inj.mp
  simp only [Int32.toBitVec_add, Int32.toBitVec_sub, BitVec.sub_eq, BitVec.add_eq]
  generalize o.toBitVec = a
  generalize l.toBitVec = b
  generalize f.toBitVec = c
  apply BitVec.eq_of_toNat_eq
  simp only [BitVec.toNat_add, BitVec.toNat_sub]
  omega
theorem i32b (y l f : Int32) : y + l - f = y + (l - f) := by
  apply Int32.toBitVec_inj.mp
  simp only [Int32.toBitVec_add, Int32.toBitVec_sub, BitVec.sub_eq, BitVec.add_eq]
  generalize y.toBitVec = a
  generalize l.toBitVec = b
  generalize f.toBitVec = c
  apply BitVec.eq_of_toNat_eq
  simp only [BitVec.toNat_add, BitVec.toNat_sub]
  omega
theorem i32c (l : Int32) : l - 0 = l := by
  apply Int32.toBitVec_inj.mp
  simp
theorem th0 : ¬ (1000 : Int32) = 0 := by decide
theorem change_c {P : PI} {d : Nat} (hd : d < 6) (o y : Int32) : f_Folk_changeOf P (nI d) o y = some (chg (P 3 d + P 4 d) o y) := by
  unfold f_Folk_changeOf chg
  simp only [chkN hd (by decide), nI_clamp (show d < 2 ^ 31 by omega), mb_dvi_of th0, lets, jns]
  split <;> rfl
theorem season_c {PR : PI} {d : Nat} (hd : d < 6) : ∃ V : PI, f_Ref_season PR (nI d) = some V ∧ V 0 40 = PR 0 40 - chg (PR 23 (4 * d + 2) + PR 23 (4 * d + 3)) (PR 0 40) (PR 0 41) ∧ V 0 41 = PR 0 41 + chg (PR 23 (4 * d + 2) + PR 23 (4 * d + 3)) (PR 0 40) (PR 0 41) ∧ eqx [] [40, 41] PR V := by
  unfold f_Ref_season
  simp only [ix4, nI_2, nI_3, chkN (show 4 * d + 2 < 72 by omega) (by decide), chkN (show 4 * d + 3 < 72 by omega) (by decide), nI_clamp (show 4 * d + 2 < 2 ^ 31 by omega), nI_clamp (show 4 * d + 3 < 2 ^ 31 by omega), mb_dvi_of th0, lets, uo_ap, Nat.reduceEqDiff, and_false, and_true, if_false, if_true, true_and, and_self]
  unfold chg
  generalize PR 0 40 * (PR 23 (4 * d + 2) + PR 23 (4 * d + 3)) / 1000 = l
  by_cases hc : PR 0 40 - l ≤ PR 0 41 + l
  · rw [if_pos hc, if_pos hc]
    exact ⟨_, rfl, by simp [uo_ap, i32c], by simp [uo_ap, i32c], eqx_uo (eqx_uo (eqx_rf _ _ _) (by decide) _) (by decide) _⟩
  · rw [if_neg hc, if_neg hc]
    exact ⟨_, rfl, by simp [uo_ap, i32a], by simp [uo_ap, i32b], eqx_uo (eqx_uo (eqx_uo (eqx_uo (eqx_rf _ _ _) (by decide) _) (by decide) _) (by decide) _) (by decide) _⟩
theorem eqx_tr {S T : List Nat} {P V W : PI} (h1 : eqx S T P V) (h2 : eqx S T V W) : eqx S T P W := ⟨fun q a b => (h2.1 q a b).trans (h1.1 q a b), fun j a => (h2.2 j a).trans (h1.2 j a)⟩
theorem eqx_mono {S T S2 T2 : List Nat} {P V : PI} (h : eqx S T P V) (hS : ∀ q, q ∈ S → q ∈ S2) (hT : ∀ q, q ∈ T → q ∈ T2) : eqx S2 T2 P V := ⟨fun q a b => h.1 q (fun z => a (hS q z)) b, fun j a => h.2 j (fun z => a (hT j z))⟩
theorem rse_in {d m : Nat} (hd : d < 6) (hm : m ≤ 100) (K : PI → Option (Int32 × PI)) : ∀ (r i n : Nat) (PR : PI), i + r = m → r < n → ∃ V : PI, f_Ref_seasons_53 (nI m) (nI d) K n (nI i) PR = K V ∧ V 0 40 = (itr (PR 23 (4 * d + 2) + PR 23 (4 * d + 3)) r (PR 0 40) (PR 0 41)).1 ∧ V 0 41 = (itr (PR 23 (4 * d + 2) + PR 23 (4 * d + 3)) r (PR 0 40) (PR 0 41)).2 ∧ eqx [] [40, 41] PR V := by
  intro r
  induction r with
  | zero =>
    intro i n PR e hn
    obtain ⟨n, rfl⟩ : ∃ m, n = m + 1 := ⟨n - 1, by omega⟩
    refine ⟨PR, ?_, rfl, rfl, eqx_rf _ _ _⟩
    show f_Ref_seasons_53_b _ _ _ _ _ _ = _
    unfold f_Ref_seasons_53_b
    rw [if_pos (nI_le (by omega) (by omega))]
  | succ r ih =>
    intro i n PR e hn
    obtain ⟨n, rfl⟩ : ∃ m, n = m + 1 := ⟨n - 1, by omega⟩
    obtain ⟨V, a1, a2, a3, a4⟩ := season_c (PR := PR) hd
    obtain ⟨V2, b1, b2, b3, b4⟩ := ih (i + 1) n V (by omega) (by omega)
    refine ⟨V2, ?_, ?_, ?_, eqx_tr a4 b4⟩
    · show f_Ref_seasons_53_b _ _ _ (f_Ref_seasons_53 (nI m) (nI d) K n) _ _ = _
      unfold f_Ref_seasons_53_b
      rw [if_neg (nI_ge (by omega) (by omega)), a1, bd1s, lets, nI_1, b1]
    · rw [b2, a2, a3, a4.1 23 (by decide) (by decide)]
      rfl
    · rw [b3, a2, a3, a4.1 23 (by decide) (by decide)]
      rfl
/-- what m seasons make of district j -/
def fin1 (PR : PI) (m j : Nat) : Int32 := (itr (PR 23 (4 * j + 2) + PR 23 (4 * j + 3)) m (PR 23 (4 * j)) (PR 23 (4 * j + 1))).1
def fin2 (PR : PI) (m j : Nat) : Int32 := (itr (PR 23 (4 * j + 2) + PR 23 (4 * j + 3)) m (PR 23 (4 * j)) (PR 23 (4 * j + 1))).2
theorem fin_cong {A B : PI} {m j : Nat} (h0 : A 23 (4 * j) = B 23 (4 * j)) (h1 : A 23 (4 * j + 1) = B 23 (4 * j + 1)) (h2 : A 23 (4 * j + 2) = B 23 (4 * j + 2)) (h3 : A 23 (4 * j + 3) = B 23 (4 * j + 3)) : fin1 A m j = fin1 B m j ∧ fin2 A m j = fin2 B m j := by
  unfold fin1 fin2
  rw [h0, h1, h2, h3]
  exact ⟨rfl, rfl⟩
theorem rse_out {m : Nat} (hm : m ≤ 100) : ∀ (r d n : Nat) (PR : PI) (a : Int32), d + r = 6 → r < n → ∃ (V : PI) (b : Int32), f_Ref_seasons_18 (nI m) n a (nI d) PR = some (b, V) ∧ eqx [23] [40, 41] PR V ∧ (∀ j, d ≤ j → j < 6 → V 23 (4 * j) = fin1 PR m j ∧ V 23 (4 * j + 1) = fin2 PR m j) ∧ (∀ j, (∀ i, d ≤ i → i < 6 → j ≠ 4 * i ∧ j ≠ 4 * i + 1) → V 23 j = PR 23 j) ∧ b = sB (fun j => fin2 PR m j) r d a := by
  intro r
  induction r with
  | zero =>
    intro d n PR a e hn
    obtain ⟨n, rfl⟩ : ∃ m, n = m + 1 := ⟨n - 1, by omega⟩
    have e6 : d = 6 := by omega
    subst e6
    refine ⟨PR, a, ?_, eqx_rf _ _ _, fun j h1 h2 => absurd h2 (by omega), fun _ _ => rfl, rfl⟩
    show f_Ref_seasons_18_b _ _ _ _ _ = _
    unfold f_Ref_seasons_18_b
    rw [if_pos (by decide)]
  | succ r ih =>
    intro d n PR a e hn
    obtain ⟨n, rfl⟩ : ∃ m, n = m + 1 := ⟨n - 1, by omega⟩
    have hd : d < 6 := by omega
    obtain ⟨V, a1, a2, a3, a4⟩ := rse_in hd hm (fun (P0_15 : PI) => mb_chk ((4 : Int32) * nI d) 72 (mb_let (mb_u2 P0_15 23 ((4 : Int32) * nI d).toNatClampNeg (P0_15 0 40)) (fun (P0_18 : PI) => mb_chk (((4 : Int32) * nI d) + (1 : Int32)) 72 (mb_let (mb_u2 P0_18 23 (((4 : Int32) * nI d) + (1 : Int32)).toNatClampNeg (P0_18 0 41)) (fun (P0_20 : PI) => mb_let (a + (P0_20 0 41)) (fun (x2_22 : Int32) => mb_let (nI d + (1 : Int32)) (fun (x3_23 : Int32) => f_Ref_seasons_18 (nI m) n x2_22 x3_23 P0_20))))))) m 0 mb_fu (mb_uo (mb_uo PR 40 (PR 23 (4 * d))) 41 (PR 23 (4 * d + 1))) (by omega) (fu_lt (by omega))
    have s1 : (mb_uo (mb_uo PR 40 (PR 23 (4 * d))) 41 (PR 23 (4 * d + 1))) 23 = PR 23 := rfl
    have s2 : (mb_uo (mb_uo PR 40 (PR 23 (4 * d))) 41 (PR 23 (4 * d + 1))) 0 40 = PR 23 (4 * d) := by simp [uo_ap]
    have s3 : (mb_uo (mb_uo PR 40 (PR 23 (4 * d))) 41 (PR 23 (4 * d + 1))) 0 41 = PR 23 (4 * d + 1) := by simp [uo_ap]
    rw [s1, s2, s3] at a2 a3
    have a4' : eqx [23] [40, 41] PR V := eqx_tr (eqx_uo (eqx_uo (eqx_rf _ _ _) (by decide) _) (by decide) _) (eqx_mono a4 (fun _ h => absurd h List.not_mem_nil) (fun _ h => h))
    have v23 : V 23 = PR 23 := a4.1 23 (by decide) (by decide)
    have a2' : V 0 40 = fin1 PR m d := a2
    have a3' : V 0 41 = fin2 PR m d := a3
    obtain ⟨W, b, b1, b2, b3, b4, b5⟩ := ih (d + 1) n (mb_u2 (mb_u2 V 23 (4 * d) (fin1 PR m d)) 23 (4 * d + 1) (fin2 PR m d)) (a + fin2 PR m d) (by omega) (by omega)
    have w23 : ∀ j, j ≠ 4 * d → j ≠ 4 * d + 1 → (mb_u2 (mb_u2 V 23 (4 * d) (fin1 PR m d)) 23 (4 * d + 1) (fin2 PR m d)) 23 j = PR 23 j := by
      intro j h1 h2
      rw [u2_ap, if_neg (by omega), u2_ap, if_neg (by omega), v23]
    have ff : ∀ j, j ≠ d → fin1 (mb_u2 (mb_u2 V 23 (4 * d) (fin1 PR m d)) 23 (4 * d + 1) (fin2 PR m d)) m j = fin1 PR m j ∧ fin2 (mb_u2 (mb_u2 V 23 (4 * d) (fin1 PR m d)) 23 (4 * d + 1) (fin2 PR m d)) m j = fin2 PR m j := by
      intro j hj
      exact fin_cong (w23 (4 * j) (by omega) (by omega)) (w23 (4 * j + 1) (by omega) (by omega)) (w23 (4 * j + 2) (by omega) (by omega)) (w23 (4 * j + 3) (by omega) (by omega))
    refine ⟨W, b, ?_, eqx_tr (eqx_u2 (eqx_u2 a4' (by decide) (by decide) _ _) (by decide) (by decide) _ _) b2, fun j h1 h2 => ?_, fun j hj => ?_, ?_⟩
    · show f_Ref_seasons_18_b _ (f_Ref_seasons_18 (nI m) n) _ _ _ = _
      unfold f_Ref_seasons_18_b
      rw [if_neg (nge (y := 6) hd (by decide) rfl)]
      simp only [ix4, nI_1, chkN (show 4 * d < 72 by omega) (by decide), chkN (show 4 * d + 1 < 72 by omega) (by decide), nI_clamp (show 4 * d < 2 ^ 31 by omega), nI_clamp (show 4 * d + 1 < 2 ^ 31 by omega), lets, jns] at a1 ⊢
      refine (Eq.trans ?_ a1).trans ?_
      · rfl
      · simp only [u2_ap, Nat.reduceEqDiff, false_and, if_false, a2', a3']
        exact b1
    · by_cases e : j = d
      · subst e
        rw [b4 (4 * j) (fun i h3 h4 => by omega), b4 (4 * j + 1) (fun i h3 h4 => by omega), u2_ap, if_neg (by omega), u2_ap, if_pos ⟨rfl, rfl⟩, u2_ap, if_pos ⟨rfl, rfl⟩]
        exact ⟨rfl, rfl⟩
      · obtain ⟨c1, c2⟩ := b3 j (by omega) h2
        rw [c1, c2]
        exact ff j e
    · rw [b4 j (fun i h3 h4 => hj i (by omega) h4)]
      have := hj d (by omega) hd
      exact w23 j this.1 this.2
    · rw [b5, sB]
      exact sB_cong r (d + 1) _ (fun k h1 h2 => (ff k (by omega)).2)
/-- the class: a season -/
theorem ps_l : ∀ (r d n : Nat) (P : PI), d + r = 6 → r < n → ∃ U : PI, f_Folk_passSeason_2 n (nI d) P = some U ∧ (∀ q, q ≠ 1 → q ≠ 2 → U q = P q) ∧ (∀ j, d ≤ j → j < 6 → U 1 j = P 1 j - chg (P 3 j + P 4 j) (P 1 j) (P 2 j) ∧ U 2 j = P 2 j + chg (P 3 j + P 4 j) (P 1 j) (P 2 j)) ∧ ∀ j, j < d → U 1 j = P 1 j ∧ U 2 j = P 2 j := by
  intro r
  induction r with
  | zero =>
    intro d n P e hn
    obtain ⟨n, rfl⟩ : ∃ m, n = m + 1 := ⟨n - 1, by omega⟩
    have e6 : d = 6 := by omega
    subst e6
    refine ⟨P, ?_, fun _ _ _ => rfl, fun j h1 h2 => absurd h2 (by omega), fun _ _ => ⟨rfl, rfl⟩⟩
    show f_Folk_passSeason_2_b _ _ _ = _
    unfold f_Folk_passSeason_2_b
    rw [if_pos (by decide)]
  | succ r ih =>
    intro d n P e hn
    obtain ⟨n, rfl⟩ : ∃ m, n = m + 1 := ⟨n - 1, by omega⟩
    have hd : d < 6 := by omega
    obtain ⟨U, a1, a2, a3, a4⟩ := ih (d + 1) n (mb_u2 (mb_u2 P 1 d (P 1 d - chg (P 3 d + P 4 d) (P 1 d) (P 2 d))) 2 d (P 2 d + chg (P 3 d + P 4 d) (P 1 d) (P 2 d))) (by omega) (by omega)
    refine ⟨U, ?_, fun q h1 h2 => ?_, fun j h1 h2 => ?_, fun j hj => ?_⟩
    · show f_Folk_passSeason_2_b (f_Folk_passSeason_2 n) _ _ = _
      unfold f_Folk_passSeason_2_b
      rw [if_neg (nge (y := 6) hd (by decide) rfl)]
      simp only [chkN hd (by decide), nI_clamp (show d < 2 ^ 31 by omega), change_c hd, bd1s, lets, u2_ap, Nat.reduceEqDiff, false_and, if_false, nI_1]
      exact a1
    · rw [a2 q h1 h2, u2_ne _ _ _ h2, u2_ne _ _ _ h1]
    · by_cases ej : j = d
      · subst ej
        obtain ⟨c1, c2⟩ := a4 j (by omega)
        rw [c1, c2]
        simp [u2_ap]
      · obtain ⟨c1, c2⟩ := a3 j (by omega) h2
        rw [c1, c2]
        simp [u2_ap, ej]
    · obtain ⟨c1, c2⟩ := a4 j (by omega)
      rw [c1, c2]
      simp [u2_ap, show ¬ (j = d) by omega]
def gin1 (P : PI) (m j : Nat) : Int32 := (itr (P 3 j + P 4 j) m (P 1 j) (P 2 j)).1
def gin2 (P : PI) (m j : Nat) : Int32 := (itr (P 3 j + P 4 j) m (P 1 j) (P 2 j)).2
theorem cse_l {m : Nat} (hm : m ≤ 100) (K : PI → Option (Int32 × PI)) : ∀ (r i n : Nat) (P : PI), i + r = m → r < n → ∃ U : PI, f_One_seasons_14 (nI m) K n (nI i) P = K U ∧ (∀ q, q ≠ 1 → q ≠ 2 → U q = P q) ∧ ∀ j, j < 6 → U 1 j = gin1 P r j ∧ U 2 j = gin2 P r j := by
  intro r
  induction r with
  | zero =>
    intro i n P e hn
    obtain ⟨n, rfl⟩ : ∃ m, n = m + 1 := ⟨n - 1, by omega⟩
    refine ⟨P, ?_, fun _ _ _ => rfl, fun j _ => ⟨rfl, rfl⟩⟩
    show f_One_seasons_14_b _ _ _ _ _ = _
    unfold f_One_seasons_14_b
    rw [if_pos (nI_le (by omega) (by omega))]
  | succ r ih =>
    intro i n P e hn
    obtain ⟨n, rfl⟩ : ∃ m, n = m + 1 := ⟨n - 1, by omega⟩
    obtain ⟨U, a1, a2, a3, -⟩ := ps_l 6 0 mb_fu P (by omega) (fu_lt (by omega))
    obtain ⟨U2, b1, b2, b3⟩ := ih (i + 1) n U (by omega) (by omega)
    refine ⟨U2, ?_, fun q h1 h2 => (b2 q h1 h2).trans (a2 q h1 h2), fun j hj => ?_⟩
    · show f_One_seasons_14_b _ _ (f_One_seasons_14 (nI m) K n) _ _ = _
      unfold f_One_seasons_14_b f_Folk_passSeason
      rw [if_neg (nI_ge (by omega) (by omega)), lets]
      have a1' : f_Folk_passSeason_2 mb_fu 0 P = some U := a1
      rw [a1', bd1s, lets, nI_1, b1]
    · obtain ⟨c1, c2⟩ := b3 j hj
      obtain ⟨d1, d2⟩ := a3 j (by omega) hj
      rw [c1, c2]
      unfold gin1 gin2
      rw [d1, d2, a2 3 (by decide) (by decide), a2 4 (by decide) (by decide)]
      exact ⟨rfl, rfl⟩
theorem an_l (P : PI) : ∀ (r d n : Nat) (a : Int32), d + r = 6 → r < n → f_Folk_allNew_4 P n a (nI d) = some (sB (P 2) r d a) := by
  intro r
  induction r with
  | zero =>
    intro d n a e hn
    obtain ⟨n, rfl⟩ : ∃ m, n = m + 1 := ⟨n - 1, by omega⟩
    have e6 : d = 6 := by omega
    subst e6
    show f_Folk_allNew_4_b _ _ _ _ = _
    unfold f_Folk_allNew_4_b
    rw [if_pos (by decide)]
    rfl
  | succ r ih =>
    intro d n a e hn
    obtain ⟨n, rfl⟩ : ∃ m, n = m + 1 := ⟨n - 1, by omega⟩
    have hd : d < 6 := by omega
    show f_Folk_allNew_4_b _ (f_Folk_allNew_4 P n) _ _ = _
    unfold f_Folk_allNew_4_b
    rw [if_neg (nge (y := 6) hd (by decide) rfl), chkN hd (by decide), nI_clamp (by omega), lets, lets, nI_1, ih (d + 1) n _ (by omega) (by omega)]
    rfl
set_option maxHeartbeats 1000000 in
theorem st_seasons {P11 PR : PI} (h : rFolk 0 P11 PR) (x1 : Int32) : ∃ (r : Int32) (U V : PI), f_One_seasons P11 x1 = some (r, U) ∧ f_Ref_seasons PR x1 = some (r, V) ∧ rFolk 0 U V ∧ eqx [23] [40, 41] PR V ∧ ∀ j, 24 ≤ j → V 23 j = PR 23 j := by
  unfold f_One_seasons f_Ref_seasons
  simp only [wi_c, in_c, bd1s, ifz, lets, jns]
  simp only [tt, Int32.reduceToInt, Int64.reduceToInt]
  by_cases ok : 1 ≤ x1.toInt ∧ x1.toInt ≤ 100
  · simp only [if_pos ok]
    obtain ⟨m, hm, rfl⟩ := ofI (n := 101) (x := x1) (by omega) (by omega) (by decide)
    obtain ⟨U, a1, a2, a3⟩ := cse_l (m := m) (by omega) (fun (P1_3 : PI) => mb_bd1 (f_Folk_allNew P1_3) (fun (r_6 : Int32) => some (r_6, P1_3))) m 0 mb_fu P11 (by omega) (fu_lt (by omega))
    obtain ⟨V, b, b1, b2, b3, b4, b5⟩ := rse_out (m := m) (by omega) 6 0 mb_fu PR 0 (by omega) (fu_lt (by omega))
    have hg : ∀ j, j < 6 → gin1 P11 m j = fin1 PR m j ∧ gin2 P11 m j = fin2 PR m j := by
      intro j hj
      obtain ⟨e1, e2, e3, e4⟩ := h j hj
      simp only [Nat.mul_zero, Nat.zero_add] at e1 e2 e3 e4
      unfold gin1 gin2 fin1 fin2
      rw [e1, e2, e3, e4]
      exact ⟨rfl, rfl⟩
    have a1' : f_One_seasons_14 (nI m) (fun (P1_3 : PI) => mb_bd1 (f_Folk_allNew P1_3) (fun (r_6 : Int32) => some (r_6, P1_3))) mb_fu 0 P11 = mb_bd1 (f_Folk_allNew U) (fun (r_6 : Int32) => some (r_6, U)) := a1
    have b1' : f_Ref_seasons_18 (nI m) mb_fu 0 0 PR = some (b, V) := b1
    have c1 : f_Folk_allNew U = some b := by
      unfold f_Folk_allNew
      rw [lets, lets]
      refine (an_l U 6 0 mb_fu 0 (by omega) (fu_lt (by omega))).trans ?_
      rw [b5]
      congr 1
      exact sB_cong 6 0 0 (fun k _ h2 => by rw [(a3 k (by omega)).2, (hg k (by omega)).2])
    refine ⟨b, U, V, by rw [a1', c1, bd1s], b1', fun d hd => ?_, b2, fun j hj => b4 j (fun i _ h4 => by omega)⟩
    obtain ⟨e1, e2, e3, e4⟩ := h d hd
    simp only [Nat.mul_zero, Nat.zero_add] at e1 e2 e3 e4 ⊢
    rw [(a3 d hd).1, (a3 d hd).2, (hg d hd).1, (hg d hd).2, (b3 d (by omega) hd).1, (b3 d (by omega) hd).2, a2 3 (by decide) (by decide), a2 4 (by decide) (by decide), e3, e4, b4 (4 * d + 2) (fun i _ h4 => by omega), b4 (4 * d + 3) (fun i _ h4 => by omega)]
    exact ⟨rfl, rfl, rfl, rfl⟩
  · simp only [if_neg ok]
    exact ⟨-1, P11, PR, rfl, rfl, h, eqx_rf _ _ _, fun _ _ => rfl⟩
