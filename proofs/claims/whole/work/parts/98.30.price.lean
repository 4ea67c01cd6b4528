/-! rounds: the class's row of losses -/
theorem b_one : ∀ j, j < 32 → ∀ e, e < 32 → bt ((1 : Int32) <<< (nI j &&& 31)) e = decide (e = j) := by decide +kernel
theorem b_pat : ∀ p, p < 8 → ∀ e, e < 32 → bt (nI p) e = tb p e := by decide +kernel
theorem forf_k {n cc c w0 : Nat} {P1 P7 P9 PR : PI} {L9 LR : PL} (hd : rDecN cc P7 PR) (h : wkRel n c w0 P9 PR L9 LR) {i : Nat} (hi : i < c) (t : Nat) : f_Rods_isForfeit P9 P7 (nI i) (P9 8 i + nI t + 1) (P9 0 1 + nI t) (PR 0 24) = some (if rF P7 P9 (PR 0 24) i t = true then 1 else 0) ∧ f_Ref_isFalse PR (nI (8 * i)) (P9 8 i + nI t + 1) (P9 0 1 + nI t) = some (if rF P7 P9 (PR 0 24) i t = true then 1 else 0) := by
  obtain ⟨hc, -, -, -, -, -, hr, -⟩ := h
  obtain ⟨⟨e0, e1, e2, e3, -⟩, -⟩ := hr i hi
  obtain ⟨b, b1, b2⟩ := forf_ok hd (show i < 12 by omega) (show 8 * i + 7 < 288 by omega) e0 e1 e2 e3 (P9 8 i + nI t + 1) (P9 0 1 + nI t)
  have e : rF P7 P9 (PR 0 24) i t = b := by
    unfold rF
    rw [b1]
    cases b <;> decide
  rw [e]
  exact ⟨b1, b2⟩
theorem fw_l {n cc c w0 : Nat} {P1 P7 P9 PR : PI} {L9 LR : PL} (hd : rDecN cc P7 PR) (h : wkRel n c w0 P9 PR L9 LR) {i w : Nat} (hi : i < c) (hw : w ≤ 4) : ∀ (r j f : Nat) (x : Int32), j + r = w → r < f → (∀ e, e < 32 → bt x e = (decide (e < j) && rF P7 P9 (PR 0 24) i e)) → ∃ y, f_Tours_forfeitWeeks_6 P9 P7 (nI i) (PR 0 24) (nI w) f x (nI j) = some y ∧ ∀ e, e < 32 → bt y e = (decide (e < w) && rF P7 P9 (PR 0 24) i e) := by
  have i12 : i < 12 := by have := h.1; omega
  intro r
  induction r with
  | zero =>
    intro j f x e hf hx
    obtain ⟨f, rfl⟩ : ∃ m, f = m + 1 := ⟨f - 1, by omega⟩
    have ej : j = w := by omega
    subst ej
    refine ⟨x, ?_, hx⟩
    show f_Tours_forfeitWeeks_6_b _ _ _ _ _ _ _ _ = _
    unfold f_Tours_forfeitWeeks_6_b
    rw [if_pos (nI_le (Nat.le_refl _) (by omega))]
  | succ r ih =>
    intro j f x e hf hx
    obtain ⟨f, rfl⟩ : ∃ m, f = m + 1 := ⟨f - 1, by omega⟩
    show ∃ y, f_Tours_forfeitWeeks_6_b P9 P7 (nI i) (PR 0 24) (nI w) (f_Tours_forfeitWeeks_6 P9 P7 (nI i) (PR 0 24) (nI w) f) x (nI j) = some y ∧ _
    unfold f_Tours_forfeitWeeks_6_b
    rw [if_neg (nI_ge (by omega) (by omega)), chkN i12 (by decide), nI_clamp (by omega), (forf_k (P1 := P1) hd h hi j).1, bd1s, letsN, letsN, letsN, nI_1]
    by_cases q : rF P7 P9 (PR 0 24) i j = true
    · rw [if_pos q, if_neg (by decide)]
      refine ih (j + 1) f _ (by omega) (by omega) (fun e he => ?_)
      rw [b_or, hx e he, b_one j (by omega) e he]
      by_cases y : e = j
      · rw [y, q]
        simp
      · have : decide (e < j + 1) = decide (e < j) := by
          apply decide_eq_decide.mpr
          omega
        rw [this]
        simp [y]
    · rw [if_neg q, if_pos rfl]
      refine ih (j + 1) f _ (by omega) (by omega) (fun e he => ?_)
      rw [hx e he]
      by_cases y : e = j
      · rw [y]
        have qf : rF P7 P9 (PR 0 24) i j = false := by simpa using q
        rw [qf]
        simp
      · have : decide (e < j + 1) = decide (e < j) := by
          apply decide_eq_decide.mpr
          omega
        rw [this]
theorem short_c {n c w0 : Nat} {P1 P9 PR : PI} {L9 LR : PL} (hu : rUnits n P1 PR) (h : wkRel n c w0 P9 PR L9 LR) {i : Nat} (hi : i < c) (t : Nat) : f_Rods_shortIn P9 P1 (nI i) (P9 8 i + nI t) = some (rA P1 P9 i * (-(rO P9 i t)).toInt64 / 1000) := by
  obtain ⟨i12, ⟨u, u1, u2, -⟩, -⟩ := rod_fact hu h hi
  unfold f_Rods_shortIn
  rw [chkN i12 (by decide), chkN i12 (by decide), nI_clamp (by omega), u2, chkN u1 (by decide), offC i12, bd1s, mb_dvl_of (show ¬ (1000 : Int64) = 0 by decide)]
  unfold rA rO
  rw [u2]
theorem lo_l {n c w0 : Nat} {P1 P9 PR : PI} {L9 LR : PL} (hu : rUnits n P1 PR) (h : wkRel n c w0 P9 PR L9 LR) {i w : Nat} (hi : i < c) (hw : w ≤ 4) {x3 : Int32} {s : Nat → Bool} (hs : ∀ t, t < w → bt x3 t = s t) : ∀ (r t f : Nat) (x : Int64), t + r = w → r < f → (0 ≤ x.toInt ∧ x.toInt ≤ t * 1000000000000) → ∃ y : Int64, f_Tours_lossOf_6 P9 P1 (nI i) x3 (nI w) f x (nI t) = some y ∧ y.toInt = x.toInt + lvg (rl P1 P9 c w i) s r t := by
  obtain ⟨i12, -, -, hA, hO⟩ := rod_fact hu h hi
  intro r
  induction r with
  | zero =>
    intro t f x e hf hx
    obtain ⟨f, rfl⟩ : ∃ m, f = m + 1 := ⟨f - 1, by omega⟩
    have et : t = w := by omega
    subst et
    refine ⟨x, ?_, by show _ = x.toInt + 0; omega⟩
    show f_Tours_lossOf_6_b _ _ _ _ _ _ _ _ = _
    unfold f_Tours_lossOf_6_b
    rw [if_pos (nI_le (Nat.le_refl _) (by omega))]
  | succ r ih =>
    intro t f x e hf hx
    obtain ⟨f, rfl⟩ : ∃ m, f = m + 1 := ⟨f - 1, by omega⟩
    obtain ⟨l1, l2⟩ := lw_ok hA (hO t (by omega))
    have ad : (x + lw (rA P1 P9 i) (rO P9 i t)).toInt = x.toInt + (lw (rA P1 P9 i) (rO P9 i t)).toInt := fb_addL (by omega) (by omega)
    have el : rl P1 P9 c w i t = (lw (rA P1 P9 i) (rO P9 i t)).toInt := by unfold rl; rw [if_pos ⟨by omega, hi⟩]
    show ∃ y : Int64, f_Tours_lossOf_6_b P9 P1 (nI i) x3 (nI w) (f_Tours_lossOf_6 P9 P1 (nI i) x3 (nI w) f) x (nI t) = some y ∧ y.toInt = x.toInt + (rl P1 P9 c w i t + (if s t = true then 0 else lvg (rl P1 P9 c w i) s r (t + 1)))
    unfold f_Tours_lossOf_6_b
    rw [if_neg (nI_ge (by omega) (by omega)), chkN i12 (by decide), nI_clamp (by omega), short_c hu h hi t, bd1s, letsN, letsN, l2, letsN, nI_1, el]
    by_cases q : s t = true
    · have q1 : ¬ ((x3 >>> (nI t &&& 31)) &&& 1) = 0 := by
        rw [bs (by omega), hs t (by omega), q]
        decide
      rw [if_neg q1, if_pos q]
      exact ⟨_, rfl, by rw [ad]; omega⟩
    · have q1 : ((x3 >>> (nI t &&& 31)) &&& 1) = 0 := by
        rw [bs (by omega), hs t (by omega)]
        simpa using q
      rw [if_pos q1, if_neg q]
      obtain ⟨y, y1, y2⟩ := ih (t + 1) f (x + lw (rA P1 P9 i) (rO P9 i t)) (by omega) (by omega) (by rw [ad]; omega)
      exact ⟨y, y1, by rw [y2, ad]; omega⟩
theorem ls_bd {l : Nat → Nat → Int} {F : Nat → Nat → Bool} {H : Nat → Bool} {D : Nat → Nat} (h : ∀ i t, 0 ≤ l i t ∧ l i t ≤ 1000000000000) (d : Nat) (a b c : Bool) : ∀ N, 0 ≤ ls l F H D N d a b c ∧ ls l F H D N d a b c ≤ N * 4000000000000
  | 0 => ⟨Int.le_refl _, by show (0 : Int) ≤ _; omega⟩
  | N + 1 => by
    have ih := ls_bd h d a b c N (l := l) (F := F) (H := H) (D := D)
    have h0 := h N 0
    have h1 := h N 1
    have h2 := h N 2
    have h3 := h N 3
    have k : 0 ≤ lv (l N) (F N) a b c ∧ lv (l N) (F N) a b c ≤ 4000000000000 := by
      unfold lv
      (repeat' split) <;> omega
    show 0 ≤ ls l F H D N d a b c + (if H N = true ∧ D N = d then lv (l N) (F N) a b c else 0) ∧ ls l F H D N d a b c + (if H N = true ∧ D N = d then lv (l N) (F N) a b c else 0) ≤ _
    split <;> omega
/-- one rod's share, pattern by pattern -/
theorem p49 {n cc c w0 : Nat} {P1 P7 P9 PR : PI} {L9 LR : PL} (hu : rUnits n P1 PR) (hd : rDecN cc P7 PR) (h : wkRel n c w0 P9 PR L9 LR) {i w : Nat} (hi : i < c) (hw : 1 ≤ w ∧ w ≤ 4) {x7 : Int32} (hx : ∀ e, e < 32 → bt x7 e = (decide (e < w) && rF P7 P9 (PR 0 24) i e)) (K : PL → Option PL) : ∀ (r p f : Nat) (L : PL), p + r = 8 → r < f → (∀ d, d < 6 → ∀ q, q < 8 → p ≤ q → 0 ≤ (L 3 (d * 8 + q)).toInt ∧ (L 3 (d * 8 + q)).toInt ≤ 100000000000000) → ∃ L' : PL, f_Tours_price_49 P9 P1 (nI w) (nI i) x7 K f (nI p) L = K L' ∧ ∀ d, d < 6 → ∀ q, q < 8 → (L' 3 (d * 8 + q)).toInt = (L 3 (d * 8 + q)).toInt + (if d = rD P9 i ∧ p ≤ q then lv (rl P1 P9 c w i) (rF P7 P9 (PR 0 24) i) (tb q 0) (tb q 1) (tb q 2) else 0) := by
  obtain ⟨i12, -, ⟨d1, d2, -⟩, -, -⟩ := rod_fact hu h hi
  have bd := rl_bd hu h hw.2 (w := w)
  intro r
  induction r with
  | zero =>
    intro p f L e hf hL
    obtain ⟨f, rfl⟩ : ∃ m, f = m + 1 := ⟨f - 1, by omega⟩
    have ep : p = 8 := by omega
    subst ep
    refine ⟨L, ?_, fun d hd q hq => by rw [if_neg (by omega)]; omega⟩
    show f_Tours_price_49_b _ _ _ _ _ _ _ _ _ = _
    unfold f_Tours_price_49_b
    rw [if_pos (by decide)]
  | succ r ih =>
    intro p f L e hf hL
    obtain ⟨f, rfl⟩ : ∃ m, f = m + 1 := ⟨f - 1, by omega⟩
    have hp : p < 8 := by omega
    show ∃ L' : PL, f_Tours_price_49_b P9 P1 (nI w) (nI i) x7 K (f_Tours_price_49 P9 P1 (nI w) (nI i) x7 K f) (nI p) L = K L' ∧ _
    unfold f_Tours_price_49_b
    have lo : ∃ y : Int64, f_Tours_lossOf P9 P1 (nI i) (nI p &&& x7) (nI w) = some y ∧ y.toInt = lv (rl P1 P9 c w i) (rF P7 P9 (PR 0 24) i) (tb p 0) (tb p 1) (tb p 2) := by
      obtain ⟨y, y1, y2⟩ := lo_l hu h hi hw.2 (x3 := nI p &&& x7) (s := fun t => tb p t && rF P7 P9 (PR 0 24) i t) (fun t ht => by
        rw [b_and, b_pat p hp t (by omega), hx t (by omega), decide_eq_true ht, Bool.true_and]) w 0 mb_fu 0 (by omega) (fu_lt (by omega)) ⟨by decide, by decide⟩
      refine ⟨y, ?_, ?_⟩
      · unfold f_Tours_lossOf
        rw [letsN, letsN, ← nI_0]
        exact y1
      · rw [y2, lvg_lv hw (fun t ht => by unfold rl; rw [if_neg (by omega)])]
        show (0 : Int64).toInt + _ = _
        rw [show (0 : Int64).toInt = 0 from rfl]
        omega
    obtain ⟨y, y1, y2⟩ := lo
    have yb : 0 ≤ y.toInt ∧ y.toInt ≤ 4000000000000 := by
      rw [y2]
      have h0 := bd i 0
      have h1 := bd i 1
      have h2 := bd i 2
      have h3 := bd i 3
      unfold lv
      (repeat' split) <;> omega
    have Lb := hL (rD P9 i) d1 p hp (Nat.le_refl _)
    have ad : (L 3 (rD P9 i * 8 + p) + y).toInt = (L 3 (rD P9 i * 8 + p)).toInt + y.toInt := fb_addL (by omega) (by omega)
    obtain ⟨L', k1, k2⟩ := ih (p + 1) f (mb_u2L L 3 (rD P9 i * 8 + p) (L 3 (rD P9 i * 8 + p) + y)) (by omega) (by omega) (fun d hd q hq hpq => by
      rw [u2L_ap, if_neg (by omega)]
      exact hL d hd q hq (by omega))
    refine ⟨L', ?_, fun d hd q hq => ?_⟩
    · rw [if_neg (nge (b := 8) hp (by decide) (y := 8) rfl), chkN i12 (by decide), letsN, nI_clamp (by omega), d2, ixT, chkN (by omega) (by decide), y1, bd1s, chkN (by omega) (by decide), letsN, letsN, nI_clamp (by omega), nI_1]
      exact k1
    · rw [k2 d hd q hq, u2L_ap]
      by_cases z : d = rD P9 i
      · by_cases zq : q = p
        · rw [if_pos ⟨rfl, by rw [z, zq]⟩, if_neg (by omega), if_pos ⟨z, by omega⟩, ad, y2, z, zq]
          omega
        · rw [if_neg (by omega)]
          by_cases pq : p + 1 ≤ q
          · rw [if_pos ⟨z, pq⟩, if_pos ⟨z, by omega⟩]
          · rw [if_neg (by omega), if_neg (by omega)]
      · rw [if_neg (by omega), if_neg (fun a => z a.1), if_neg (fun a => z a.1)]
theorem p11 {n cc c w0 : Nat} {P1 P7 P9 PR : PI} {L9 LR : PL} (hu : rUnits n P1 PR) (hd : rDecN cc P7 PR) (h : wkRel n c w0 P9 PR L9 LR) {w : Nat} (hw : 1 ≤ w ∧ w ≤ 4) : ∀ (r i f : Nat) (L : PL), i + r = c → r < f → lT (L 3) (ls (rl P1 P9 c w) (rF P7 P9 (PR 0 24)) (rH P9) (rD P9) i) → ∃ L' : PL, f_Tours_price_11 P9 P1 P7 (PR 0 24) (nI w) f (nI i) L = some L' ∧ lT (L' 3) (ls (rl P1 P9 c w) (rF P7 P9 (PR 0 24)) (rH P9) (rD P9) c) := by
  have bd := rl_bd hu h hw.2 (w := w)
  have c12 := h.1
  have h00 := h.2.2.1
  intro r
  induction r with
  | zero =>
    intro i f L e hf hL
    obtain ⟨f, rfl⟩ : ∃ m, f = m + 1 := ⟨f - 1, by omega⟩
    have ei : i = c := by omega
    rw [ei] at hL ⊢
    refine ⟨L, ?_, hL⟩
    show f_Tours_price_11_b _ _ _ _ _ _ _ _ = _
    unfold f_Tours_price_11_b
    rw [h00, if_pos (nI_le (Nat.le_refl _) (by omega))]
  | succ r ih =>
    intro i f L e hf hL
    obtain ⟨f, rfl⟩ : ∃ m, f = m + 1 := ⟨f - 1, by omega⟩
    have hi : i < c := by omega
    show ∃ L' : PL, f_Tours_price_11_b P9 P1 P7 (PR 0 24) (nI w) (f_Tours_price_11 P9 P1 P7 (PR 0 24) (nI w) f) (nI i) L = some L' ∧ _
    unfold f_Tours_price_11_b
    rw [h00, if_neg (nI_ge hi (by omega)), chkN (by omega) (by decide), nI_clamp (by omega), letsN, nI_1]
    by_cases q : P9 11 i = 0
    · have qH : rH P9 i = true := by unfold rH; exact decide_eq_true q
      obtain ⟨y, y1, y2⟩ := fw_l (P1 := P1) hd h hi hw.2 w 0 mb_fu 0 (by omega) (fu_lt (by omega)) (fun e he => by rw [b_0, decide_eq_false (by omega), Bool.false_and])
      have fwe : f_Tours_forfeitWeeks P9 P7 (nI i) (PR 0 24) (nI w) = some y := by
        unfold f_Tours_forfeitWeeks
        rw [letsN, letsN, ← nI_0]
        exact y1
      obtain ⟨L', k1, k2⟩ := p49 hu hd h hi hw y2 (fun (L0_12 : PL) => mb_let (nI (i + 1)) (fun (x6_15 : Int32) => f_Tours_price_11 P9 P1 P7 (PR 0 24) (nI w) f x6_15 L0_12)) 8 0 mb_fu L (by omega) (fu_lt (by omega)) (fun d hd q hq _ => by
        rw [hL d hd q hq]
        have := ls_bd bd (F := rF P7 P9 (PR 0 24)) (H := rH P9) (D := rD P9) d (tb q 0) (tb q 1) (tb q 2) i
        omega)
      obtain ⟨L2, l1, l2⟩ := ih (i + 1) f L' (by omega) (by omega) (fun d hd q hq => by
        rw [k2 d hd q hq, hL d hd q hq]
        show _ = ls (rl P1 P9 c w) (rF P7 P9 (PR 0 24)) (rH P9) (rD P9) i d (tb q 0) (tb q 1) (tb q 2) + (if rH P9 i = true ∧ rD P9 i = d then lv (rl P1 P9 c w i) (rF P7 P9 (PR 0 24) i) (tb q 0) (tb q 1) (tb q 2) else 0)
        by_cases z : d = rD P9 i
        · rw [if_pos ⟨z, by omega⟩, if_pos ⟨qH, z.symm⟩]
        · rw [if_neg (fun a => z a.1), if_neg (fun a => z a.2.symm)])
      refine ⟨L2, ?_, l2⟩
      rw [letsN, nI_0] at k1
      rw [if_pos q, fwe, bd1s, letsN, letsN, jnsN]
      exact k1.trans l1
    · have qH : ¬ rH P9 i = true := by unfold rH; simpa using q
      obtain ⟨L2, l1, l2⟩ := ih (i + 1) f L (by omega) (by omega) (fun d hd q hq => by
        rw [hL d hd q hq]
        show _ = ls (rl P1 P9 c w) (rF P7 P9 (PR 0 24)) (rH P9) (rD P9) i d (tb q 0) (tb q 1) (tb q 2) + (if rH P9 i = true ∧ rD P9 i = d then lv (rl P1 P9 c w i) (rF P7 P9 (PR 0 24) i) (tb q 0) (tb q 1) (tb q 2) else 0)
        rw [if_neg (fun a => qH a.1)]
        omega)
      refine ⟨L2, ?_, l2⟩
      rw [if_neg q]
      exact l1
theorem price_c {n cc c w0 : Nat} {P1 P7 P9 PR : PI} {L9 LR : PL} (hu : rUnits n P1 PR) (hd : rDecN cc P7 PR) (h : wkRel n c w0 P9 PR L9 LR) {w : Nat} (hw : 1 ≤ w ∧ w ≤ 4) (L : PL) : ∃ L' : PL, f_Tours_price L P9 P1 P7 (PR 0 24) (nI w) = some L' ∧ lT (L' 3) (ls (rl P1 P9 c w) (rF P7 P9 (PR 0 24)) (rH P9) (rD P9) c) := by
  obtain ⟨L', k1, k2⟩ := p11 hu hd h hw c 0 mb_fu (mb_upL L 3 (mb_fill 48 (0 : Int64) (L 3))) (by omega) (fu_lt (by have := h.1; omega)) (fun d hd p hp => by
    show (mb_fill 48 (0 : Int64) (L 3) (d * 8 + p)).toInt = 0
    unfold mb_fill
    rw [if_pos (by omega)]
    rfl)
  refine ⟨L', ?_, k2⟩
  unfold f_Tours_price
  rw [letsN, letsN, ← nI_0, nI_0]
  rw [nI_0] at k1
  exact k1
