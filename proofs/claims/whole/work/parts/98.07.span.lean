/-! span: narrowing -/
theorem sm_mul {x : Int32} {y : Int64} (hx : 1 ≤ x.toInt ∧ x.toInt ≤ 10000) (hy : 1 ≤ y.toInt ∧ y.toInt ≤ 1000000) : (y * x.toInt64).toInt = y.toInt * x.toInt ∧ 1 ≤ y.toInt * x.toInt ∧ y.toInt * x.toInt ≤ 10000000000 := by
  have m : y.toInt * x.toInt ≤ 1000000 * 10000 := Int.mul_le_mul hy.2 hx.2 (by omega) (by decide)
  have m0 : 1 * 1 ≤ y.toInt * x.toInt := Int.mul_le_mul hy.1 hx.1 (by decide) (by omega)
  exact ⟨by rw [fb_mulL (by rw [tt]; omega) (by rw [tt]; omega), tt], by omega, by omega⟩
theorem divp {x : Int64} {y : Int32} (h : 1 ≤ y.toInt) : (x / y.toInt64).toInt = x.toInt.tdiv y.toInt := by
  rw [Int64.toInt_div_of_ne_right _ _ (fun e => by have := congrArg Int64.toInt e; rw [tt] at this; have : y.toInt = -1 := this; omega), tt]
theorem mxi {a b : Int64} : (if a.toInt < b.toInt then b else a) = (if a.toInt ≤ b.toInt then b else a) := by
  by_cases h : a.toInt < b.toInt
  · rw [if_pos h, if_pos (by omega)]
  · rw [if_neg h]
    by_cases h2 : a.toInt ≤ b.toInt
    · rw [if_pos h2]; exact Int64.toInt_inj.mp (by omega)
    · rw [if_neg h2]
theorem mni {a b : Int64} : (if a.toInt < b.toInt then a else b) = (if b.toInt ≤ a.toInt then b else a) := by
  by_cases h : a.toInt < b.toInt
  · rw [if_pos h, if_neg (by omega)]
  · rw [if_neg h, if_pos (by omega)]
/-- the bounds behind one trial -/
def nlo (x y e : Int32) (s lo : Int64) : Int64 := if (s * y.toInt64).toInt ≤ e.toInt then lo else (if ((s * y.toInt64 - e.toInt64 + x.toInt64 - 1) / x.toInt64).toInt ≤ lo.toInt then lo else (s * y.toInt64 - e.toInt64 + x.toInt64 - 1) / x.toInt64)
def nhi (x y e : Int32) (s hi : Int64) : Int64 := if hi.toInt ≤ ((s * y.toInt64 + e.toInt64) / x.toInt64).toInt then hi else (s * y.toInt64 + e.toInt64) / x.toInt64
theorem nlo_ge {x y e : Int32} {s lo : Int64} (h : 1 ≤ lo.toInt) : 1 ≤ (nlo x y e s lo).toInt := by
  unfold nlo
  (repeat' split) <;> omega
theorem nhi_rng {x y e : Int32} {s hi : Int64} (hx : 1 ≤ x.toInt) (hy : 1 ≤ y.toInt ∧ y.toInt ≤ 10000) (he : 0 ≤ e.toInt ∧ e.toInt ≤ 1000000) (hs : 1 ≤ s.toInt ∧ s.toInt ≤ 1000000) (h : 0 ≤ hi.toInt ∧ hi.toInt ≤ 1000000) : 0 ≤ (nhi x y e s hi).toInt ∧ (nhi x y e s hi).toInt ≤ 1000000 := by
  obtain ⟨e1, e2, e3⟩ := sm_mul hy hs
  unfold nhi
  split
  · exact h
  · rename_i q
    refine ⟨?_, by omega⟩
    rw [divp hx, fb_addL (by rw [e1, tt]; omega) (by rw [e1, tt]; omega), e1, tt]
    exact Int.tdiv_nonneg (by omega) (by omega)
theorem clip_c {L : PL} {x y e : Int32} {s : Int64} (hx : 1 ≤ x.toInt) : ∃ M : PL, f_Trials_clip L x (s * y.toInt64) e = some M ∧ M 0 6 = nlo x y e s (L 0 6) ∧ M 0 7 = nhi x y e s (L 0 7) := by
  unfold f_Trials_clip mb_dvl
  have x0 := ne64 hx
  have s7 : ∀ (y : Int64), (mb_uoL L 6 y) 0 7 = L 0 7 := fun y => by rw [uoL_ap, if_neg (by decide)]
  have s6 : ∀ (M : PL) (y : Int64), (mb_uoL M 7 y) 0 6 = M 0 6 := fun M y => by rw [uoL_ap, if_neg (by decide)]
  have t6 : ∀ (y : Int64), (mb_uoL L 6 y) 0 6 = y := fun y => by rw [uoL_ap, if_pos ⟨rfl, rfl⟩]
  have t7 : ∀ (M : PL) (y : Int64), (mb_uoL M 7 y) 0 7 = y := fun M y => by rw [uoL_ap, if_pos ⟨rfl, rfl⟩]
  rw [if_pos (show (1 : Int32) ≤ x from Int32.le_iff_toInt_le.mpr hx)]
  simp only [letsN, jnsN, if_neg x0, lg_cmp_le, Int64.le_iff_toInt_le, Int64.lt_iff_toInt_lt, tt, s7]
  unfold nlo nhi
  by_cases a : (s * y.toInt64).toInt ≤ e.toInt
  · rw [if_pos a, if_pos a]
    exact ⟨_, rfl, by rw [s6], by rw [t7, mni]⟩
  · rw [if_neg a, if_neg a]
    exact ⟨_, rfl, by rw [s6, t6, mxi], by rw [t7, mni]⟩
def sI (L LR : PL) : Prop := L 0 6 = LR 0 30 ∧ L 0 7 = LR 0 31 ∧ 1 ≤ (LR 0 30).toInt ∧ 0 ≤ (LR 0 31).toInt ∧ (LR 0 31).toInt ≤ 1000000
def nst (x y e : Int32) (s : Int64) (L : PL) : PL := mb_uoL (mb_uoL L 30 (nlo x y e s (L 0 30))) 31 (nhi x y e s (L 0 31))
theorem nst30 (x y e : Int32) (s : Int64) (L : PL) : nst x y e s L 0 30 = nlo x y e s (L 0 30) := by unfold nst; rw [uoL_ap, if_neg (by decide), uoL_ap, if_pos ⟨rfl, rfl⟩]
theorem nst31 (x y e : Int32) (s : Int64) (L : PL) : nst x y e s L 0 31 = nhi x y e s (L 0 31) := by unfold nst; rw [uoL_ap, if_pos ⟨rfl, rfl⟩]
set_option maxHeartbeats 2000000 in
/-- the reference's bounds behind one trial -/
theorem ref_nst {x y e : Int32} {s : Int64} {L : PL} (hx : 1 ≤ x.toInt) (hy : 1 ≤ y.toInt ∧ y.toInt ≤ 10000) (he : 0 ≤ e.toInt ∧ e.toInt ≤ 1000000) (hs : 1 ≤ s.toInt ∧ s.toInt ≤ 1000000) (hl : 1 ≤ (L 0 30).toInt) (S : PL → Option PL) : mb_let (y.toInt64 * s - e.toInt64) (fun (x12_30 : Int64) => mb_let (y.toInt64 * s + e.toInt64) (fun (x14_32 : Int64) => mb_jn (fun (y_33 : Int64) => mb_let y_33 (fun (x16_36 : Int64) => mb_jn (fun (y_37 : Int64) => mb_let (mb_uoL L 30 y_37) (fun (L0_40 : PL) => mb_dvl x.toInt64 (mb_jn (fun (y_42 : Int64) => mb_let (mb_uoL L0_40 31 y_42) (fun (L0_45 : PL) => S L0_45)) (fun J264_43 => (if 0 ≤ (lg_cmp (x14_32 / x.toInt64) (L0_40 0 31)) then J264_43 (L0_40 0 31) else mb_dvl x.toInt64 (J264_43 (x14_32 / x.toInt64))))))) (fun J235_38 => (if (lg_cmp x16_36 (L 0 30)) ≤ 0 then J235_38 (L 0 30) else J235_38 x16_36)))) (fun J213_34 => (if 0 < (lg_cmp x12_30 (0 : Int64)) then mb_dvl x.toInt64 (J213_34 (((x12_30 + x.toInt64) - (1 : Int64)) / x.toInt64)) else J213_34 (0 : Int64))))) = S (nst x y e s L) := by
  obtain ⟨e1, e2, e3⟩ := sm_mul hy hs
  have x0 := ne64 hx
  have mc : y.toInt64 * s = s * y.toInt64 := Int64.mul_comm _ _
  have s7 : ∀ (y : Int64), (mb_uoL L 30 y) 0 31 = L 0 31 := fun y => by rw [uoL_ap, if_neg (by decide)]
  have ef : (s * y.toInt64 - e.toInt64).toInt = s.toInt * y.toInt - e.toInt := by rw [fb_subL (by rw [e1, tt]; omega) (by rw [e1, tt]; omega), e1, tt]
  unfold mb_dvl
  simp only [letsN, jnsN, if_neg x0, lg_cmp_le, lg_cmp_ge, lg_cmp_gt, Int64.le_iff_toInt_le, Int64.lt_iff_toInt_lt, s7, mc, ef, show (0 : Int64).toInt = 0 from rfl]
  unfold nst nlo nhi
  rw [e1]
  by_cases a : s.toInt * y.toInt ≤ e.toInt
  · rw [if_pos a, if_neg (by omega), if_pos (by omega)]
    by_cases b : (L 0 31).toInt ≤ ((s * y.toInt64 + e.toInt64) / x.toInt64).toInt
    · rw [if_pos b, if_pos b]
    · rw [if_neg b, if_neg b]
  · rw [if_neg a, if_pos (by omega)]
    by_cases d : ((s * y.toInt64 - e.toInt64 + x.toInt64 - 1) / x.toInt64).toInt ≤ (L 0 30).toInt
    · rw [if_pos d, if_pos d]
      by_cases b : (L 0 31).toInt ≤ ((s * y.toInt64 + e.toInt64) / x.toInt64).toInt
      · rw [if_pos b, if_pos b]
      · rw [if_neg b, if_neg b]
    · rw [if_neg d, if_neg d]
      by_cases b : (L 0 31).toInt ≤ ((s * y.toInt64 + e.toInt64) / x.toInt64).toInt
      · rw [if_pos b, if_pos b]
      · rw [if_neg b, if_neg b]
