/-! rounds: the step -/
def cs (l : Nat → Nat → Int) (F : Nat → Nat → Bool) (H : Nat → Bool) (D : Nat → Nat) (cd : Nat) : Nat → Int
  | 0 => 0
  | N + 1 => cs l F H D cd N + (if H N = true then lv (l N) (F N) (tb (tg cd 0) (D N)) (tb (tg cd 1) (D N)) (tb (tg cd 2) (D N)) else 0)
theorem vp_cs {l : Nat → Nat → Int} {F : Nat → Nat → Bool} {H : Nat → Bool} {D : Nat → Nat} (cd : Nat) : ∀ N, (∀ i, i < N → D i < 6) → vp (ls l F H D N) cd = cs l F H D cd N
  | 0, _ => rfl
  | N + 1, h => by
    have ih := vp_cs (l := l) (F := F) (H := H) cd N (fun i hi => h i (by omega))
    have hd := h N (by omega)
    have e : ∀ d, vd (ls l F H D (N + 1)) cd d = vd (ls l F H D N) cd d + (if H N = true ∧ D N = d then lv (l N) (F N) (tb (tg cd 0) d) (tb (tg cd 1) d) (tb (tg cd 2) d) else 0) := fun d => rfl
    show vp (ls l F H D (N + 1)) cd = cs l F H D cd N + (if H N = true then lv (l N) (F N) (tb (tg cd 0) (D N)) (tb (tg cd 1) (D N)) (tb (tg cd 2) (D N)) else 0)
    unfold vp at ih ⊢
    rw [e, e, e, e, e, e]
    generalize hD : D N = dd at *
    by_cases q : H N = true
    · rw [if_pos q]
      rcases (show dd = 0 ∨ dd = 1 ∨ dd = 2 ∨ dd = 3 ∨ dd = 4 ∨ dd = 5 by omega) with z | z | z | z | z | z <;> subst z <;> simp only [q, true_and, if_pos, if_neg (show ¬ (0 : Nat) = 1 by decide), if_neg (show ¬ (0 : Nat) = 2 by decide), if_neg (show ¬ (0 : Nat) = 3 by decide), if_neg (show ¬ (0 : Nat) = 4 by decide), if_neg (show ¬ (0 : Nat) = 5 by decide), if_neg (show ¬ (1 : Nat) = 0 by decide), if_neg (show ¬ (1 : Nat) = 2 by decide), if_neg (show ¬ (1 : Nat) = 3 by decide), if_neg (show ¬ (1 : Nat) = 4 by decide), if_neg (show ¬ (1 : Nat) = 5 by decide), if_neg (show ¬ (2 : Nat) = 0 by decide), if_neg (show ¬ (2 : Nat) = 1 by decide), if_neg (show ¬ (2 : Nat) = 3 by decide), if_neg (show ¬ (2 : Nat) = 4 by decide), if_neg (show ¬ (2 : Nat) = 5 by decide), if_neg (show ¬ (3 : Nat) = 0 by decide), if_neg (show ¬ (3 : Nat) = 1 by decide), if_neg (show ¬ (3 : Nat) = 2 by decide), if_neg (show ¬ (3 : Nat) = 4 by decide), if_neg (show ¬ (3 : Nat) = 5 by decide), if_neg (show ¬ (4 : Nat) = 0 by decide), if_neg (show ¬ (4 : Nat) = 1 by decide), if_neg (show ¬ (4 : Nat) = 2 by decide), if_neg (show ¬ (4 : Nat) = 3 by decide), if_neg (show ¬ (4 : Nat) = 5 by decide), if_neg (show ¬ (5 : Nat) = 0 by decide), if_neg (show ¬ (5 : Nat) = 1 by decide), if_neg (show ¬ (5 : Nat) = 2 by decide), if_neg (show ¬ (5 : Nat) = 3 by decide), if_neg (show ¬ (5 : Nat) = 4 by decide)] <;> omega
    · rw [if_neg q, if_neg (fun z => q z.1), if_neg (fun z => q z.1), if_neg (fun z => q z.1), if_neg (fun z => q z.1), if_neg (fun z => q z.1), if_neg (fun z => q z.1)]
      omega
theorem ch5 {n cc c w0 : Nat} {P1 P7 P9 PR : PI} {L9 LR : PL} (hu : rUnits n P1 PR) (hd : rDecN cc P7 PR) (h : wkRel n c w0 P9 PR L9 LR) {w : Nat} (hw : 1 ≤ w ∧ w ≤ 4) {cd : Nat} (hc : cd < 262144) (hp : ∀ j, j < w → PR 40 j = nI (tg cd j)) : ∀ (r i f : Nat) (x : Int64), i + r = c → r < f → (0 ≤ x.toInt ∧ x.toInt ≤ i * 4000000000000) → x.toInt = cs (rl P1 P9 c w) (rF P7 P9 (PR 0 24)) (rH P9) (rD P9) cd i → ∃ y : Int64, f_Ref_cheatedBy_5 PR (nI w) f x (nI (8 * i)) = some y ∧ y.toInt = cs (rl P1 P9 c w) (rF P7 P9 (PR 0 24)) (rH P9) (rD P9) cd c := by
  have bd := rl_bd hu h hw.2 (w := w)
  obtain ⟨c12, -, -, -, h18, -, hr, -⟩ := id h
  have e8 : (8 : Int32) * nI c = nI (8 * c) := pk_mul 8 c
  intro r
  induction r with
  | zero =>
    intro i f x e hf hb hx
    obtain ⟨f, rfl⟩ : ∃ m, f = m + 1 := ⟨f - 1, by omega⟩
    have ei : i = c := by omega
    rw [ei] at hx
    refine ⟨x, ?_, hx⟩
    show f_Ref_cheatedBy_5_b _ _ _ _ _ = _
    unfold f_Ref_cheatedBy_5_b
    rw [zero3]
    simp only [show (0 : Int32).toNatClampNeg = 0 from rfl, h18, e8]
    rw [if_pos (by rw [ei]; exact nI_le (Nat.le_refl _) (by omega))]
  | succ r ih =>
    intro i f x e hf hb hx
    obtain ⟨f, rfl⟩ : ∃ m, f = m + 1 := ⟨f - 1, by omega⟩
    have hi : i < c := by omega
    obtain ⟨-, -, fw, wr, f1, f2, f3⟩ := hr i hi
    show ∃ y : Int64, f_Ref_cheatedBy_5_b PR (nI w) (f_Ref_cheatedBy_5 PR (nI w) f) x (nI (8 * i)) = some y ∧ _
    unfold f_Ref_cheatedBy_5_b
    rw [zero3]
    simp only [show (0 : Int32).toNatClampNeg = 0 from rfl, h18, e8, nI_7, nI_8]
    rw [if_neg (nI_ge (by omega) (by omega)), chkN (by omega) (by decide), jnsN, nI_clamp (by omega)]
    rcases f3 with ⟨z1, z2, -⟩ | ⟨z, z0, z1, z2, -⟩
    · have qH : rH P9 i = true := by unfold rH; exact decide_eq_true z2
      obtain ⟨y, y1, y2⟩ := ch42 hu hd h hi hw.2 z2 hc hp (fun (x2_15 : Int64) => mb_let (nI (8 * i + 8)) (fun (x4_18 : Int32) => f_Ref_cheatedBy_5 PR (nI w) f x2_15 x4_18)) w 0 mb_fu x (by omega) (fu_lt (by omega)) ⟨hb.1, by omega⟩
      have lb := lvg_bd (s := fun j => tb (tg cd j) (rD P9 i) && rF P7 P9 (PR 0 24) i j) (bd i) w 0
      have lvl2 := lvg_lv (l := rl P1 P9 c w i) (F := rF P7 P9 (PR 0 24) i) (q := fun j => tb (tg cd j) (rD P9 i)) hw (fun t ht => by unfold rl; rw [if_neg (by omega)])
      rw [show 8 * i + 8 = 8 * (i + 1) by omega, letsN] at y1
      obtain ⟨v, v1, v2⟩ := ih (i + 1) f y (by omega) (by omega) (by
        rw [y2]
        have : (w : Int) ≤ 4 := by omega
        omega) (by
        rw [y2, hx, lvl2]
        show _ = cs (rl P1 P9 c w) (rF P7 P9 (PR 0 24)) (rH P9) (rD P9) cd i + (if rH P9 i = true then _ else 0)
        rw [if_pos qH])
      refine ⟨v, ?_, v2⟩
      rw [z1, if_neg (by decide)]
      show mb_let _ _ = _
      rw [letsN, letsN, jnsN]
      rw [nI_0] at y1
      rw [show 8 * i + 8 = 8 * (i + 1) by omega]
      exact y1.trans v1
    · have qH : ¬ rH P9 i = true := by unfold rH; rw [z2]; decide
      obtain ⟨v, v1, v2⟩ := ih (i + 1) f x (by omega) (by omega) (by omega) (by
        rw [hx]
        show _ = cs (rl P1 P9 c w) (rF P7 P9 (PR 0 24)) (rH P9) (rD P9) cd i + (if rH P9 i = true then _ else 0)
        rw [if_neg qH]
        omega)
      refine ⟨v, ?_, v2⟩
      have z100 : w0 ≤ 100 := h.2.1
      rw [z1, if_pos (nI_pos' (by omega))]
      show mb_let _ _ = _
      rw [letsN, letsN, jnsN]
      obtain ⟨g, hg⟩ : ∃ g, mb_fu = g + 1 := ⟨mb_fu - 1, by unfold mb_fu; omega⟩
      rw [hg]
      show f_Ref_cheatedBy_42_b _ _ _ _ _ _ _ _ = _
      unfold f_Ref_cheatedBy_42_b
      rw [if_neg (by rw [← nI_0]; exact nI_ge (by omega) (by omega)), if_pos rfl]
      show mb_let _ _ = _
      rw [letsN, show 8 * i + 8 = 8 * (i + 1) by omega]
      exact v1
theorem st_rounds {n : Nat} {P0 P1 P7 P9 PT PR : PI} {L9 LR LT : PL} (hu : rUnits n P1 PR) (h7 : rDecrees P7 PR) (h0 : rOwn P0 PR) (h : rRods 0 n P9 PR L9 LR) (x1 x2 x3 : Int32) : ∃ (r : Int64) (U : PI) (UL : PL) (V : PI), f_One_rounds P0 P1 P7 P9 PT LT x1 x2 x3 = some (r, U, UL) ∧ f_Ref_rounds PR x1 x2 x3 = some (r, V) ∧ eqx [38, 39, 40] [36] PR V := by
  unfold f_One_rounds f_Ref_rounds
  simp only [wi_c, in_c, bd1s, ifz]
  simp only [tt, Int32.reduceToInt, Int64.reduceToInt]
  by_cases g : 1 ≤ x1.toInt ∧ x1.toInt ≤ 4
  · obtain ⟨w, hw, ew⟩ : ∃ w : Nat, (1 ≤ w ∧ w ≤ 4) ∧ x1 = nI w := by
      obtain ⟨w, a, b⟩ := ofI (x := x1) (n := 5) (by omega) (by omega) (by decide)
      refine ⟨w, ?_, b⟩
      rw [b, nI_toInt (by omega)] at g
      omega
    have m1 : (nI w - 1).toInt = (w : Int) - 1 := pk_sub_toInt (a := w) (b := 1) (by omega) (by decide)
    rw [if_pos g, if_pos g]
    by_cases g2 : 1 ≤ x2.toInt ∧ x2.toInt ≤ 2
    · obtain ⟨k, hk, ek⟩ : ∃ k : Nat, (k = 1 ∨ k = 2) ∧ x2 = nI k := by
        obtain ⟨w, a, b⟩ := ofI (x := x2) (n := 3) (by omega) (by omega) (by decide)
        refine ⟨w, ?_, b⟩
        rw [b, nI_toInt (by omega)] at g2
        omega
      rw [if_pos g2, if_pos g2, ew, ek]
      by_cases g3 : -1 ≤ x3.toInt ∧ x3.toInt ≤ (nI w - 1).toInt
      · rw [if_pos g3, if_pos g3]
        rw [m1] at g3
        obtain ⟨c, w0, hR⟩ := wkRel_iff.mp h
        obtain ⟨cc, hD⟩ := h7
        have bd := rl_bd hu hR hw.2 (w := w)
        generalize hLs : ls (rl P1 P9 c w) (rF P7 P9 (PR 0 24)) (rH P9) (rD P9) c = Ls
        have hB : bdL Ls := by
          intro d a b e
          rw [← hLs]
          have k1 := ls_bd bd (F := rF P7 P9 (PR 0 24)) (H := rH P9) (D := rD P9) d a b e c
          have := hR.1
          omega
        have hL : dim Ls := by
          intro d
          rw [← hLs]
          exact ⟨fun b e => ls_d0 (fun i t => (bd i t).1) d b e c, fun a e => ls_d1 (fun i t => (bd i t).1) d a e c⟩
        obtain ⟨L', p1, p2⟩ := price_c hu hD hR hw LT
        rw [hLs] at p2
        obtain ⟨U, UL, b, s1, s2, s3⟩ := seek_c (P := PT) hB hL (k := k) (by omega) hw p2
        have hV0 : ∀ z, 0 ≤ vp Ls z := by
          intro z
          have g : ∀ d, 0 ≤ vd Ls z d := fun d => (hB d _ _ _).1
          have g0 := g 0
          have g1 := g 1
          have g2 := g 2
          have g3 := g 3
          have g4 := g 4
          have g5 := g 5
          unfold vp
          omega
        have hch : ∀ (P : PI) (cd : Nat), eqx [38, 39, 40] [36] PR P → cd < 262144 → (∀ j, j < 4 → w ≤ j + 1 → tg cd j = 0) → (∀ j, j < w → P 40 j = nI (tg cd j)) → ∃ v : Int64, f_Ref_cheatedBy P (nI w) = some v ∧ v.toInt = vp Ls cd := by
          intro P cd hP hcd _ hp
          have uP : rUnits n P1 P := fU hu (hP.2 0 (by decide)) (hP.1 2 (by decide) (by decide)) (hP.1 3 (by decide) (by decide)) (hP.1 4 (by decide) (by decide))
          have dP : rDecN cc P7 P := fDn hD (by rw [hP.1 14 (by decide) (by decide)]) (fun j _ => by rw [hP.1 15 (by decide) (by decide)])
          have rP : wkRel n c w0 P9 P L9 LR := by
            unfold wkRel rdOk at hR ⊢
            rw [hP.1 18 (by decide) (by decide), hP.1 19 (by decide) (by decide), hP.1 20 (by decide) (by decide)]
            exact hR
          have e24 : P 0 24 = PR 0 24 := hP.2 24 (by decide)
          obtain ⟨y, y1, y2⟩ := ch5 uP dP rP hw hcd hp c 0 mb_fu 0 (by omega) (fu_lt (by have := hR.1; omega)) ⟨by decide, by decide⟩ rfl
          refine ⟨y, ?_, ?_⟩
          · unfold f_Ref_cheatedBy
            rw [letsN, letsN, ← nI_0]
            exact y1
          · rw [y2, ← hLs, vp_cs cd c (fun i hi => (rod_fact hu hR hi).2.2.1.1), e24]
        obtain ⟨V0, v1, best, V, b', r1, r2, r3, r4⟩ := r_all hk hw hV0 hch (fun (x5_12 : Int64) (P0_13 : PI) => (if 0 ≤ x3 then mb_chk x3 4 (some (((P0_13 39 x3.toNatClampNeg)).toInt64, P0_13)) else some (x5_12, P0_13)))
        have eb := op1_uni s3 r4
        subst eb
        rw [h0.2.1, p1, bd1s, s1, bd2s, v1, bd1s, letsN, letsN, jnsN, r1]
        -- there is a plan
        have none0 : cnd w k 0 := by
          refine ⟨by decide, fun t ht => ⟨fun _ => ?_, fun _ => ?_⟩⟩
          · rcases (show t = 0 ∨ t = 1 ∨ t = 2 by omega) with rfl | rfl | rfl <;> exact Nat.zero_le _
          · rcases (show t = 0 ∨ t = 1 ∨ t = 2 by omega) with rfl | rfl | rfl <;> rfl
        cases b with
        | none => exact absurd none0 (s3 0)
        | some cd =>
          by_cases y : x3.toInt = -1
          · have y1 : x3 = -1 := Int32.toInt_inj.mp (by rw [y]; decide)
            rw [if_pos y1, if_neg (by rw [y1]; decide)]
            have ee : UL 0 1 = best := Int64.toInt_inj.mp (s2.1.trans r3.1.symm)
            rw [ee]
            exact ⟨best, U, UL, V, rfl, rfl, r2⟩
          · obtain ⟨j, hj, ej⟩ := ofI (x := x3) (n := w) (by omega) (by omega) (by omega)
            rw [ej, if_neg (by
              intro z
              have := congrArg Int32.toInt z
              rw [nI_toInt (by omega)] at this
              have e1 : (-1 : Int32).toInt = -1 := rfl
              omega), if_pos (nI_pos' (by omega)), chkN (by omega) (by decide), chkN (by omega) (by decide), nI_clamp (by omega), s2.2 j (by omega), r3.2 j hj]
            exact ⟨_, U, UL, V, rfl, rfl, r2⟩
      · rw [if_neg g3, if_neg g3]
        exact ⟨_, PT, LT, PR, rfl, rfl, eqx_rf _ _ _⟩
    · rw [if_neg g2, if_neg g2]
      exact ⟨_, PT, LT, PR, rfl, rfl, eqx_rf _ _ _⟩
  · rw [if_neg g, if_neg g]
    exact ⟨_, PT, LT, PR, rfl, rfl, eqx_rf _ _ _⟩
