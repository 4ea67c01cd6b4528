/-! span: all trials, then the dividing -/
theorem nI_5' (a : Nat) : nI (5 * a) + 5 = nI (5 * (a + 1)) := by rw [nI_5, Nat.mul_add]
set_option maxHeartbeats 4000000 in
theorem sp_l {c : Nat} {P5 PR : PI} (hc : c ≤ 30) (h1 : P5 0 5 = nI c) (h2 : PR 0 9 = nI c) (h3 : ∀ j, j < c → P5 1 j = PR 11 (5 * j) ∧ P5 2 j = PR 11 (5 * j + 1) ∧ P5 3 j = PR 11 (5 * j + 2) ∧ P5 4 j = PR 11 (5 * j + 3) ∧ P5 5 j = PR 11 (5 * j + 4) ∧ tvOk (P5 3 j) (P5 4 j) (P5 5 j)) {u v : Int32} (huv : ¬ u = v) {s : Int64} (hs : 1 ≤ s.toInt ∧ s.toInt ≤ 1000000) : ∀ (r k n m : Nat) (L LR : PL), k + r = c → r < n → r < m → sI L LR → ∃ M V : PL, f_Trials_narrow_15 P5 u v s n (nI k) L = some M ∧ f_Ref_laySpan_15 PR u v s m (nI (5 * k)) LR = some V ∧ sI M V ∧ eqL [] [30, 31] LR V := by
  intro r
  induction r with
  | zero =>
    intro k n m L LR e hn hm hI
    obtain ⟨n, rfl⟩ : ∃ m, n = m + 1 := ⟨n - 1, by omega⟩
    obtain ⟨m, rfl⟩ : ∃ z, m = z + 1 := ⟨m - 1, by omega⟩
    have ek : k = c := by omega
    subst ek
    refine ⟨L, LR, ?_, ?_, hI, eqL_rf _ _ _⟩
    · show f_Trials_narrow_15_b _ _ _ _ _ _ _ = _
      unfold f_Trials_narrow_15_b
      rw [h1, if_pos (nI_le (Nat.le_refl _) (by omega))]
    · show f_Ref_laySpan_15_b _ _ _ _ _ _ _ = _
      unfold f_Ref_laySpan_15_b
      rw [h2, ixm 5 k (x := 5) rfl, if_pos (nI_le (Nat.le_refl _) (by omega))]
  | succ r ih =>
    intro k n m L LR e hn hm hI
    obtain ⟨n, rfl⟩ : ∃ m, n = m + 1 := ⟨n - 1, by omega⟩
    obtain ⟨m, rfl⟩ : ∃ z, m = z + 1 := ⟨m - 1, by omega⟩
    obtain ⟨e1, e2, e3, e4, e5, ok⟩ := h3 k (by omega)
    obtain ⟨okx, oky, oke⟩ := ok
    have k30 : k < 30 := by omega
    -- what both do
    have key : ∃ M V : PL, f_Trials_narrow_15_b P5 u v s (f_Trials_narrow_15 P5 u v s n) (nI k) L = f_Trials_narrow_15 P5 u v s n (nI (k + 1)) M ∧ f_Ref_laySpan_15_b PR u v s (f_Ref_laySpan_15 PR u v s m) (nI (5 * k)) LR = f_Ref_laySpan_15 PR u v s m (nI (5 * (k + 1))) V ∧ sI M V ∧ eqL [] [30, 31] LR V := by
      unfold f_Trials_narrow_15_b f_Ref_laySpan_15_b
      rw [h1, h2, ixm 5 c (x := 5) rfl, if_neg (nI_ge (by omega) (by omega)), if_neg (nI_ge (by omega) (by omega))]
      simp only [letsN, jnsN, chkN k30 (by decide), nI_clamp (show k < 2 ^ 31 by omega), nI_1, nI_5', nI_2, nI_3, nI_4, chkN (show 5 * k < 150 by omega) (by decide), chkN (show 5 * k + 1 < 150 by omega) (by decide), chkN (show 5 * k + 2 < 150 by omega) (by decide), chkN (show 5 * k + 3 < 150 by omega) (by decide), chkN (show 5 * k + 4 < 150 by omega) (by decide), nI_clamp (show 5 * k < 2 ^ 31 by omega), nI_clamp (show 5 * k + 1 < 2 ^ 31 by omega), nI_clamp (show 5 * k + 2 < 2 ^ 31 by omega), nI_clamp (show 5 * k + 3 < 2 ^ 31 by omega), nI_clamp (show 5 * k + 4 < 2 ^ 31 by omega), ← e1, ← e2, ← e3, ← e4, ← e5, show ¬ (1 : Int32) = 0 by decide, if_false, if_true]
      obtain ⟨i1, i2, i3, i4, i5⟩ := hI
      by_cases as : P5 1 k = u ∧ P5 2 k = v
      · have na : ¬ P5 1 k = v := fun z => huv (as.1.symm.trans z)
        obtain ⟨M, m1, m2, m3⟩ := clip_c (L := L) (x := P5 3 k) (y := P5 4 k) (e := P5 5 k) (s := s) okx.1
        have t := ref_nst (x := P5 3 k) (y := P5 4 k) (e := P5 5 k) (s := s) (L := LR) okx.1 oky oke hs i3 (fun L => f_Ref_laySpan_15 PR u v s m (nI (5 * (k + 1))) L)
        simp only [letsN, jnsN] at t
        refine ⟨M, nst (P5 3 k) (P5 4 k) (P5 5 k) s LR, ?_, ?_, ⟨by rw [m2, nst30, i1], by rw [m3, nst31, i2], by rw [nst30]; exact nlo_ge i3, ?_⟩, eqL_uo (eqL_uo (eqL_rf _ _ _) (by decide) _) (by decide) _⟩
        · rw [if_pos as.1, if_pos as.2, m1, bd1s, if_neg na]
        · rw [if_pos as.1, if_pos as.2, if_neg na]
          exact t
        · rw [nst31]; exact nhi_rng okx.1 oky oke hs ⟨i4, i5⟩
      · by_cases ab : P5 1 k = v ∧ P5 2 k = u
        · have na : ¬ P5 1 k = u := fun z => huv (z.symm.trans ab.1)
          obtain ⟨M, m1, m2, m3⟩ := clip_c (L := L) (x := P5 4 k) (y := P5 3 k) (e := P5 5 k) (s := s) oky.1
          have t := ref_nst (x := P5 4 k) (y := P5 3 k) (e := P5 5 k) (s := s) (L := LR) oky.1 okx oke hs i3 (fun L => f_Ref_laySpan_15 PR u v s m (nI (5 * (k + 1))) L)
          simp only [letsN, jnsN] at t
          refine ⟨M, nst (P5 4 k) (P5 3 k) (P5 5 k) s LR, ?_, ?_, ⟨by rw [m2, nst30, i1], by rw [m3, nst31, i2], by rw [nst30]; exact nlo_ge i3, ?_⟩, eqL_uo (eqL_uo (eqL_rf _ _ _) (by decide) _) (by decide) _⟩
          · rw [if_neg na, if_pos ab.1, if_pos ab.2, m1, bd1s]
          · rw [if_neg na, if_pos ab.1, if_pos ab.2]
            exact t
          · rw [nst31]; exact nhi_rng oky.1 okx oke hs ⟨i4, i5⟩
        · refine ⟨L, LR, ?_, ?_, ⟨i1, i2, i3, i4, i5⟩, eqL_rf _ _ _⟩
          · by_cases a : P5 1 k = u
            · have a2 : ¬ P5 2 k = v := fun z => as ⟨a, z⟩
              have na : ¬ P5 1 k = v := fun z => huv (a.symm.trans z)
              rw [if_pos a, if_neg a2, if_neg na]
            · rw [if_neg a]
              by_cases b : P5 1 k = v
              · rw [if_pos b, if_neg (fun z => ab ⟨b, z⟩)]
              · rw [if_neg b]
          · by_cases a : P5 1 k = u
            · have a2 : ¬ P5 2 k = v := fun z => as ⟨a, z⟩
              have na : ¬ P5 1 k = v := fun z => huv (a.symm.trans z)
              rw [if_pos a, if_neg a2, if_neg na]
            · rw [if_neg a]
              by_cases b : P5 1 k = v
              · rw [if_pos b, if_neg (fun z => ab ⟨b, z⟩)]
              · rw [if_neg b]
    obtain ⟨M, V, k1, k2, k3, k4⟩ := key
    obtain ⟨M2, V2, l1, l2, l3, l4⟩ := ih (k + 1) n m M V (by omega) (by omega) (by omega) k3
    exact ⟨M2, V2, k1.trans l1, k2.trans l2, l3, eqL_tr k4 l4⟩
def abv (lo hi e : Int64) : Int64 := if e.toInt < hi.toInt then (if lo.toInt ≤ e.toInt then hi - e else hi - lo + 1) else 0
def mstv (lo hi e : Int64) : Int64 := if (abv lo hi e).toInt ≤ (hi - lo + 1 - abv lo hi e).toInt then hi - lo + 1 - abv lo hi e else abv lo hi e
theorem left_c {L : PL} {e : Int64} (h1 : 1 ≤ (L 0 6).toInt) (h2 : (L 0 6).toInt ≤ (L 0 7).toInt) (h3 : (L 0 7).toInt ≤ 1000000) (he : 0 ≤ e.toInt ∧ e.toInt ≤ 10000000) : f_Trials_leftAtMost L e = some (mstv (L 0 6) (L 0 7) e) ∧ (mstv (L 0 6) (L 0 7) e).toInt ≤ 1000000 := by
  generalize hlo : L 0 6 = lo at *
  generalize hhi : L 0 7 = hi at *
  have s1 : (hi - lo).toInt = hi.toInt - lo.toInt := fb_subL (by omega) (by omega)
  have s2 : (hi - lo + 1).toInt = hi.toInt - lo.toInt + 1 := by rw [fb_addL (by rw [s1]; show _ ≤ _ + (1 : Int); omega) (by rw [s1]; show _ + (1 : Int) < _; omega), s1]; rfl
  have s3 : (e - lo).toInt = e.toInt - lo.toInt := fb_subL (by omega) (by omega)
  have s4 : (e - lo + 1).toInt = e.toInt - lo.toInt + 1 := by rw [fb_addL (by rw [s3]; show _ ≤ _ + (1 : Int); omega) (by rw [s3]; show _ + (1 : Int) < _; omega), s3]; rfl
  have s5 : (hi - e).toInt = hi.toInt - e.toInt := fb_subL (by omega) (by omega)
  have a1 : 0 ≤ (abv lo hi e).toInt ∧ (abv lo hi e).toInt ≤ hi.toInt - lo.toInt + 1 := by
    unfold abv
    split
    · split
      · rw [s5]; omega
      · rw [s2]; omega
    · show (0 : Int) ≤ 0 ∧ (0 : Int) ≤ _; omega
  have a2 : (hi - lo + 1 - abv lo hi e).toInt = hi.toInt - lo.toInt + 1 - (abv lo hi e).toInt := by rw [fb_subL (by omega) (by omega), s2]
  -- the class's count below is the rest
  have v3 : (if ((if e < hi then e else hi) - lo + 1) < (0 : Int64) then (0 : Int64) else ((if e < hi then e else hi) - lo + 1)) = hi - lo + 1 - abv lo hi e := by
    apply Int64.toInt_inj.mp
    rw [a2]
    unfold abv
    simp only [Int64.lt_iff_toInt_lt]
    by_cases q : e.toInt < hi.toInt
    · rw [if_pos q, if_pos q, s4]
      by_cases q2 : lo.toInt ≤ e.toInt
      · rw [if_pos q2, if_neg (by show ¬ _ < (0 : Int); omega), s4, s5]; omega
      · rw [if_neg q2, s2]
        by_cases q3 : e.toInt - lo.toInt + 1 < (0 : Int64).toInt
        · rw [if_pos q3]; show (0 : Int) = _; omega
        · rw [if_neg q3, s4]
          have q4 : ¬ e.toInt - lo.toInt + 1 < 0 := q3
          omega
    · rw [if_neg q, if_neg q, s2, if_neg (by show ¬ _ < (0 : Int); omega), s2]
      show _ = _ - (0 : Int); omega
  have v4 : hi - lo + 1 - (hi - lo + 1 - abv lo hi e) = abv lo hi e := by
    apply Int64.toInt_inj.mp
    rw [fb_subL (by omega) (by omega), a2, s2]; omega
  unfold f_Trials_leftAtMost
  simp only [letsN, hlo, hhi, v3, v4]
  constructor
  · unfold mstv
    simp only [Int64.lt_iff_toInt_lt]
    rw [mxi]
  · unfold mstv
    split <;> omega
