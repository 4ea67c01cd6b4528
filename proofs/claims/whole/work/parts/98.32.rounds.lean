/-! rounds -/
theorem ch42 {n cc c w0 : Nat} {P1 P7 P9 PR : PI} {L9 LR : PL} (hu : rUnits n P1 PR) (hd : rDecN cc P7 PR) (h : wkRel n c w0 P9 PR L9 LR) {i w : Nat} (hi : i < c) (hw : w ≤ 4) (hH : P9 11 i = 0) {cd : Nat} (hc : cd < 262144) (hp : ∀ j, j < w → PR 40 j = nI (tg cd j)) (K : Int64 → Option Int64) : ∀ (r t f : Nat) (x : Int64), t + r = w → r + 1 < f → (0 ≤ x.toInt ∧ x.toInt ≤ 100000000000000 + t * 1000000000000) → ∃ y : Int64, f_Ref_cheatedBy_42 PR (nI w) (nI (8 * i)) K f x 1 (nI t) = K y ∧ y.toInt = x.toInt + lvg (rl P1 P9 c w i) (fun j => tb (tg cd j) (rD P9 i) && rF P7 P9 (PR 0 24) i j) r t := by
  obtain ⟨i12, ⟨u, u1, u2, u3, u4⟩, ⟨d1, d2, d3⟩, hA, hO⟩ := rod_fact hu h hi
  obtain ⟨hc12, hw0, h00, h01, h18, h20, hr, -⟩ := id h
  obtain ⟨⟨e0, e1, e2, e3, e4, e5, e6⟩, -, fw, wr, f1, f2, f3⟩ := hr i hi
  have fw1 : fw + wr = w0 := by
    rcases f3 with ⟨-, -, z⟩ | ⟨z, z1, -, z3, -⟩
    · exact z
    · rw [hH] at z3; exact absurd z3 (by decide)
  have wk : ∀ t, PR 20 0 + nI t - PR 19 (8 * i + 5) = P9 8 i + nI t := by
    intro t
    rw [h20, ← e5, f1, f2, nI_add, nI_add, pk_sub (by omega)]
    congr 1
    omega
  intro r
  induction r with
  | zero =>
    intro t f x e hf hx
    obtain ⟨f, rfl⟩ : ∃ m, f = m + 1 := ⟨f - 1, by omega⟩
    have et : t = w := by omega
    subst et
    refine ⟨x, ?_, by show _ = x.toInt + 0; omega⟩
    show f_Ref_cheatedBy_42_b _ _ _ _ _ _ _ _ = _
    unfold f_Ref_cheatedBy_42_b
    rw [if_pos (nI_le (Nat.le_refl _) (by omega))]
  | succ r ih =>
    intro t f x e hf hx
    obtain ⟨f, rfl⟩ : ∃ m, f = m + 1 := ⟨f - 1, by omega⟩
    obtain ⟨l1, l2⟩ := lw_ok hA (hO t (by omega))
    have ad : (x + lw (rA P1 P9 i) (rO P9 i t)).toInt = x.toInt + (lw (rA P1 P9 i) (rO P9 i t)).toInt := fb_addL (by omega) (by omega)
    have el : rl P1 P9 c w i t = (lw (rA P1 P9 i) (rO P9 i t)).toInt := by unfold rl; rw [if_pos ⟨by omega, hi⟩]
    have off : f_Ref_offAt PR (nI (8 * i)) (P9 8 i + nI t) = some (rO P9 i t) := by
      rw [offR (by omega), ← e2, ← e3]
      rfl
    have isf : f_Ref_isFalse PR (nI (8 * i)) (P9 8 i + nI t + 1) (PR 20 0 + nI t) = some (if rF P7 P9 (PR 0 24) i t = true then 1 else 0) := by
      have := (forf_k (P1 := P1) hd h hi t).2
      rw [h01, ← h20] at this
      exact this
    -- what follows the sum
    have rest : ∀ X : Int64, X.toInt = x.toInt + (lw (rA P1 P9 i) (rO P9 i t)).toInt → ∃ y : Int64, (mb_let X (fun (x2_34 : Int64) => mb_chk (nI t) 4 (mb_chk (nI (8 * i) + (1 : Int32)) 288 (mb_jn (fun (y_37 : Int32) => mb_let y_37 (fun (x5_40 : Int32) => mb_let (nI t + (1 : Int32)) (fun (x6_41 : Int32) => f_Ref_cheatedBy_42 PR (nI w) (nI (8 * i)) K f x2_34 x5_40 x6_41))) (fun J178_38 => mb_jn (J178_38 (1 : Int32)) (fun J173_42 => (if (((PR 40 (nI t).toNatClampNeg) >>> ((PR 19 (nI (8 * i) + (1 : Int32)).toNatClampNeg) &&& 31)) &&& (1 : Int32)) = 0 then J173_42 else mb_chk (0 : Int32) 3 (mb_bd1 (f_Ref_isFalse PR (nI (8 * i)) (P9 8 i + nI t + (1 : Int32)) ((PR 20 (0 : Int32).toNatClampNeg) + nI t)) (fun (r_45 : Int32) => (if r_45 = 0 then J173_42 else J178_38 (0 : Int32))))))))))) = K y ∧ y.toInt = x.toInt + ((lw (rA P1 P9 i) (rO P9 i t)).toInt + (if (tb (tg cd t) (rD P9 i) && rF P7 P9 (PR 0 24) i t) = true then 0 else lvg (rl P1 P9 c w i) (fun j => tb (tg cd j) (rD P9 i) && rF P7 P9 (PR 0 24) i j) r (t + 1))) := by
      intro X hX
      rw [letsN, chkN (by omega) (by decide), nI_1, chkN (by omega) (by decide), jnsN, jnsN, nI_clamp (by omega), nI_clamp (by omega), hp t (by omega), d3, tbv _ (tg_lt hc t) _ d1]
      simp only [letsN, nI_1, zero3, show (0 : Int32).toNatClampNeg = 0 from rfl, isf, bd1s]
      obtain ⟨y, y1, y2⟩ := ih (t + 1) f X (by omega) (by omega) (by rw [hX]; omega)
      have stop : f_Ref_cheatedBy_42 PR (nI w) (nI (8 * i)) K f X 0 (nI (t + 1)) = K X := by
        obtain ⟨f', rfl⟩ : ∃ m, f = m + 1 := ⟨f - 1, by omega⟩
        show f_Ref_cheatedBy_42_b _ _ _ _ _ _ _ _ = _
        unfold f_Ref_cheatedBy_42_b
        split
        · rfl
        · rw [if_pos rfl]
      generalize tb (tg cd t) (rD P9 i) = b1
      generalize rF P7 P9 (PR 0 24) i t = b2
      cases b1 with
      | false =>
        rw [if_pos (by decide), Bool.false_and, if_neg (by decide)]
        exact ⟨y, y1, by rw [y2, hX]; omega⟩
      | true =>
        rw [if_neg (by decide), Bool.true_and]
        cases b2 with
        | false =>
          rw [if_neg (show ¬ false = true by decide), if_pos rfl, if_neg (show ¬ false = true by decide)]
          exact ⟨y, y1, by rw [y2, hX]; omega⟩
        | true =>
          rw [if_pos (show true = true from rfl), if_neg (by decide), if_pos (show true = true from rfl), stop]
          exact ⟨X, rfl, by rw [hX]; omega⟩
    show ∃ y : Int64, f_Ref_cheatedBy_42_b PR (nI w) (nI (8 * i)) K (f_Ref_cheatedBy_42 PR (nI w) (nI (8 * i)) K f) x 1 (nI t) = K y ∧ y.toInt = x.toInt + (rl P1 P9 c w i t + (if (tb (tg cd t) (rD P9 i) && rF P7 P9 (PR 0 24) i t) = true then 0 else lvg (rl P1 P9 c w i) (fun j => tb (tg cd j) (rD P9 i) && rF P7 P9 (PR 0 24) i j) r (t + 1)))
    rw [el]
    unfold f_Ref_cheatedBy_42_b
    rw [if_neg (nI_ge (by omega) (by omega)), if_neg (by decide), zero3, nI_5, chkN (by omega) (by decide), letsN, nI_clamp (show 8 * i + 5 < 2 ^ 31 by omega)]
    simp only [show (0 : Int32).toNatClampNeg = 0 from rfl, wk t, off, bd1s]
    rw [letsN, jnsN]
    by_cases q : 0 ≤ rO P9 i t
    · rw [if_pos q]
      refine rest (x + 0) ?_
      rw [Int64.add_zero]
      unfold lw
      rw [if_pos q]
      show _ = _ + (0 : Int)
      omega
    · rw [if_neg q, nI_4, chkN (by omega) (by decide), chkN (by omega) (by decide), nI_clamp (show 8 * i < 2 ^ 31 by omega), nI_clamp (show 8 * i + 4 < 2 ^ 31 by omega), u3, chkN u1 (by decide), mb_dvl_of (show ¬ (1000 : Int64) = 0 by decide), nI_clamp (show u < 2 ^ 31 by omega)]
      refine rest _ ?_
      rw [← ad]
      unfold lw
      rw [if_neg q]
      unfold rA
      rw [u2, nI_clamp (show u < 2 ^ 31 by omega), e4, u4]
