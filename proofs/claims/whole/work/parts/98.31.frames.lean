/-! what each relation looks at -/
theorem fU {n : Nat} {P1 PR V : PI} (h : rUnits n P1 PR) (e0 : V 0 0 = PR 0 0) (e2 : V 2 = PR 2) (e3 : V 3 = PR 3) (e4 : V 4 = PR 4) : rUnits n P1 V := by
  unfold rUnits at h ⊢
  rw [e0, e2, e3, e4]
  exact h
theorem fG {P4 PR V : PI} {LR W : PL} (h : rGround P4 PR LR) (e0 : V 0 5 = PR 0 5) (e1 : V 7 = PR 7) (e2 : W 8 = LR 8) (e3 : W 9 = LR 9) : rGround P4 V W := by
  unfold rGround at h ⊢
  rw [e0, e1, e2, e3]
  exact h
theorem fTr {P5 PR V : PI} (h : rTrials P5 PR) (e0 : V 0 9 = PR 0 9) (e1 : V 11 = PR 11) : rTrials P5 V := by
  unfold rTrials at h ⊢
  rw [e0, e1]
  exact h
theorem fS {P6 PR V : PI} (h : rScript P6 PR) (e0 : V 0 11 = PR 0 11) (e1 : V 13 = PR 13) : rScript P6 V := by
  unfold rScript at h ⊢
  rw [e0, e1]
  exact h
theorem fDn {c : Nat} {P7 PR V : PI} (h : rDecN c P7 PR) (e0 : V 14 1 = PR 14 1) (e1 : ∀ j, 300 ≤ j → V 15 j = PR 15 j) : rDecN c P7 V := by
  obtain ⟨a, b, d, e⟩ := h
  refine ⟨a, b, e0.trans d, fun j hj => ?_⟩
  rw [e1 _ (by omega), e1 _ (by omega), e1 _ (by omega), e1 _ (by omega), e1 _ (by omega)]
  exact e j hj
theorem fD {P7 PR V : PI} (h : rDecrees P7 PR) (e0 : V 14 1 = PR 14 1) (e1 : ∀ j, 300 ≤ j → V 15 j = PR 15 j) : rDecrees P7 V := by
  obtain ⟨c, hc⟩ := h
  exact ⟨c, fDn hc e0 e1⟩
theorem fP {P8 PR V : PI} (h : rPapers P8 PR) (e0 : V 0 15 = PR 0 15) (e1 : V 17 = PR 17) : rPapers P8 V := by
  unfold rPapers at h ⊢
  rw [e0, e1]
  exact h
theorem fR {t n : Nat} {P9 PR V : PI} {L9 LR W : PL} (h : rRods t n P9 PR L9 LR) (e0 : V 18 t = PR 18 t) (e1 : V 20 t = PR 20 t) (e2 : ∀ j, 96 * t ≤ j → j < 96 * t + 96 → V 19 j = PR 19 j) (e3 : ∀ j, 6 * t ≤ j → j < 6 * t + 6 → W 21 j = LR 21 j ∧ W 22 j = LR 22 j) : rRods t n P9 V L9 W := by
  obtain ⟨c, w, h1, h2, h3, h4, h5, h6, h7, h8⟩ := h
  refine ⟨c, w, h1, h2, h3, h4, e0.trans h5, e1.trans h6, fun j hj => ?_, fun d hd => ?_⟩
  · have k := h7 j hj
    unfold rdOk at k ⊢
    rw [e2 (96 * t + 8 * j) (by omega) (by omega), e2 (96 * t + 8 * j + 1) (by omega) (by omega), e2 (96 * t + 8 * j + 2) (by omega) (by omega), e2 (96 * t + 8 * j + 3) (by omega) (by omega), e2 (96 * t + 8 * j + 4) (by omega) (by omega), e2 (96 * t + 8 * j + 5) (by omega) (by omega), e2 (96 * t + 8 * j + 6) (by omega) (by omega), e2 (96 * t + 8 * j + 7) (by omega) (by omega)]
    exact k
  · have k := e3 (6 * t + d) (by omega) (by omega)
    rw [k.1, k.2]
    exact h8 d hd
theorem fF {t : Nat} {P11 PR V : PI} (h : rFolk t P11 PR) (e : ∀ j, 24 * t ≤ j → j < 24 * t + 24 → V 23 j = PR 23 j) : rFolk t P11 V := by
  intro d hd
  rw [e (24 * t + 4 * d) (by omega) (by omega), e (24 * t + 4 * d + 1) (by omega) (by omega), e (24 * t + 4 * d + 2) (by omega) (by omega), e (24 * t + 4 * d + 3) (by omega) (by omega)]
  exact h d hd
theorem fO {P0 PR V : PI} (h : rOwn P0 PR) (e0 : V 26 = PR 26) (e1 : V 0 24 = PR 0 24) (e2 : V 0 23 = PR 0 23) : rOwn P0 V := by
  unfold rOwn at h ⊢
  rw [e0, e1, e2]
  exact h
