theorem ct_lt {p q : Nat → Bool} : ∀ {n : Nat} {i : Nat}, (∀ k, k < n → p k = true → q k = true) → i < n → q i = true → p i = false → fb_ct p n < fb_ct q n
  | 0, i, _, hi, _, _ => absurd hi (Nat.not_lt_zero i)
  | n + 1, i, h, hi, hq, hp => by
    rw [fb_ct_succ, fb_ct_succ]
    by_cases e : i = n
    · subst e
      have h1 := fb_ct_sub (p := p) (q := q) (n := i) (fun k hk => h k (by omega))
      rw [hq, hp]
      simp
      omega
    · have h1 := ct_lt (p := p) (q := q) (n := n) (i := i) (fun k hk => h k (by omega)) (by omega) hq hp
      have h2 := h n (by omega)
      by_cases a : p n = true
      · rw [if_pos a, if_pos (h2 a)]
        omega
      · rw [if_neg a]
        omega
/-- how many changes lie behind a day -/
def cpn (P : PI) (c day : Nat) : Nat := fb_ct (fun j => decide ((day : Int) < (P 4 j).toInt)) c + fb_ct (fun j => decide ((day : Int) < (P 5 j).toInt + 1)) c
theorem cpn_lt {P : PI} {c a b j : Nat} (hab : a < b) (hj : j < c) (h : (P 4 j).toInt = b ∨ (P 5 j).toInt + 1 = b) : cpn P c b < cpn P c a := by
  unfold cpn
  have s1 : fb_ct (fun j => decide ((b : Int) < (P 4 j).toInt)) c ≤ fb_ct (fun j => decide ((a : Int) < (P 4 j).toInt)) c := fb_ct_sub (fun k _ h => by simp only [decide_eq_true_eq] at h ⊢; omega)
  have s2 : fb_ct (fun j => decide ((b : Int) < (P 5 j).toInt + 1)) c ≤ fb_ct (fun j => decide ((a : Int) < (P 5 j).toInt + 1)) c := fb_ct_sub (fun k _ h => by simp only [decide_eq_true_eq] at h ⊢; omega)
  rcases h with h | h
  · have s3 : fb_ct (fun j => decide ((b : Int) < (P 4 j).toInt)) c < fb_ct (fun j => decide ((a : Int) < (P 4 j).toInt)) c := ct_lt (i := j) (fun k _ h => by simp only [decide_eq_true_eq] at h ⊢; omega) hj (by simp only [decide_eq_true_eq]; omega) (by simp only [decide_eq_false_iff_not]; omega)
    omega
  · have s3 : fb_ct (fun j => decide ((b : Int) < (P 5 j).toInt + 1)) c < fb_ct (fun j => decide ((a : Int) < (P 5 j).toInt + 1)) c := ct_lt (i := j) (fun k _ h => by simp only [decide_eq_true_eq] at h ⊢; omega) hj (by simp only [decide_eq_true_eq]; omega) (by simp only [decide_eq_false_iff_not]; omega)
    omega
theorem minN {x y : Nat} (hx : x < 2 ^ 31) (hy : y < 2 ^ 31) : (if nI x < nI y then nI x else nI y) = nI (if x < y then x else y) := by
  by_cases h : x < y
  · rw [if_pos h, if_pos (nI_lt h hy)]
  · rw [if_neg h, if_neg (nI_nlt (by omega) hx)]
/-- b is a good next day, as far as the first k items say -/
def nxOk (P : PI) (u d : Int32) (c a k b : Nat) : Prop := a < b ∧ b ≤ 10000 ∧ (∀ j, j < k → bU P 97 u d j = true ∨ bU P 98 u d j = true → ((a : Int) < (P 4 j).toInt → (b : Int) ≤ (P 4 j).toInt) ∧ ((a : Int) ≤ (P 5 j).toInt → (b : Int) ≤ (P 5 j).toInt + 1)) ∧ (b = 10000 ∨ ∃ j, j < c ∧ ((P 4 j).toInt = b ∨ (P 5 j).toInt + 1 = b))
set_option maxHeartbeats 1000000 in
theorem nc_l {P : PI} {c a : Nat} (hc : c ≤ 33) (h : P 0 5 = nI c) (hi : ∀ j, j < c → (0 ≤ (P 4 j).toInt ∧ (P 4 j).toInt ≤ 9999) ∧ 0 ≤ (P 5 j).toInt ∧ (P 5 j).toInt ≤ 9999) (ha : a ≤ 9999) (u d : Int32) : ∀ (m k n b : Nat), k + m = c → m < n → nxOk P u d c a k b → ∃ b2, f_Decrees_nextChange_8 P u d (nI a) n (nI b) (nI k) = some (nI b2) ∧ nxOk P u d c a c b2 := by
  intro m
  induction m with
  | zero =>
    intro k n b e hn hb
    obtain ⟨n, rfl⟩ : ∃ m, n = m + 1 := ⟨n - 1, by omega⟩
    have ek : k = c := by omega
    subst ek
    refine ⟨b, ?_, hb⟩
    show f_Decrees_nextChange_8_b _ _ _ _ _ _ _ = _
    unfold f_Decrees_nextChange_8_b
    rw [h, if_pos (nI_le (Nat.le_refl _) (by omega))]
  | succ m ih =>
    intro k n b e hn hb
    obtain ⟨n, rfl⟩ : ∃ m, n = m + 1 := ⟨n - 1, by omega⟩
    have hk : k < 33 := by omega
    obtain ⟨⟨i1, i2⟩, i3, i4⟩ := hi k (by omega)
    obtain ⟨t, ht, et⟩ := ofI (n := 10000) i1 (by omega) (by decide)
    obtain ⟨f, hf, ef⟩ := ofI (n := 10000) i3 (by omega) (by decide)
    have tt4 : (P 4 k).toInt = (t : Int) := by rw [et]; exact nI_toInt (by omega)
    have tt5 : (P 5 k).toInt = (f : Int) := by rw [ef]; exact nI_toInt (by omega)
    obtain ⟨h1, h2, h3, h4⟩ := hb
    -- what the item makes of b
    by_cases hu : bU P 97 u d k = true ∨ bU P 98 u d k = true
    · let b1 := if a < t then (if t < b then t else b) else b
      let b2 := if f < a then b1 else (if f + 1 < b1 then f + 1 else b1)
      have q1 : nxOk P u d c a (k + 1) b2 := by
        refine ⟨?_, ?_, fun j hj hw => ?_, ?_⟩
        · simp only [b2, b1]; (repeat' split) <;> omega
        · simp only [b2, b1]; (repeat' split) <;> omega
        · by_cases ej : j = k
          · subst ej
            rw [tt4, tt5]
            simp only [b2, b1]
            constructor <;> intro hz <;> (repeat' split) <;> omega
          · obtain ⟨g1, g2⟩ := h3 j (by omega) hw
            constructor
            · intro hz
              have := g1 hz
              simp only [b2, b1]; (repeat' split) <;> omega
            · intro hz
              have := g2 hz
              simp only [b2, b1]; (repeat' split) <;> omega
        · simp only [b2, b1]
          (repeat' split)
          all_goals first
            | exact h4
            | exact Or.inr ⟨k, by omega, Or.inl tt4⟩
            | exact Or.inr ⟨k, by omega, Or.inr (by rw [tt5]; omega)⟩
      obtain ⟨b3, g1, g2⟩ := ih (k + 1) n b2 (by omega) (by omega) q1
      refine ⟨b3, ?_, g2⟩
      show f_Decrees_nextChange_8_b _ _ _ _ (f_Decrees_nextChange_8 P u d (nI a) n) _ _ = _
      unfold f_Decrees_nextChange_8_b
      rw [h, if_neg (nI_ge (by omega) (by omega))]
      simp only [ofUse_c (P := P) hk, bd1s, jns, lets, ifz, chkN hk (by decide), nI_clamp (show k < 2 ^ 31 by omega), nI_1, et, ef]
      have hh : ∀ A B : Option Int32, (if bU P 97 u d k = true then A else if bU P 98 u d k = true then A else B) = A := by
        intro A B
        rcases hu with z | z
        · rw [if_pos z]
        · rw [if_pos z]; split <;> rfl
      rw [hh]
      rw [← g1]
      simp only [nI_leI (show t < 2 ^ 31 by omega) (show a < 2 ^ 31 by omega), nI_ltI (show f < 2 ^ 31 by omega) (show a < 2 ^ 31 by omega), nI_ltI (show t < 2 ^ 31 by omega) (show b < 2 ^ 31 by omega), b2, b1]
      by_cases c1 : a < t
      · rw [if_neg (by omega), if_pos c1]
        by_cases c2 : t < b
        · rw [if_pos c2, if_pos c2]
          by_cases c3 : f < a
          · rw [if_pos c3, if_pos c3]
          · rw [if_neg c3, if_neg c3, minN (show f + 1 < 2 ^ 31 by omega) (show t < 2 ^ 31 by omega)]
        · rw [if_neg c2, if_neg c2]
          by_cases c3 : f < a
          · rw [if_pos c3, if_pos c3]
          · rw [if_neg c3, if_neg c3, minN (show f + 1 < 2 ^ 31 by omega) (show b < 2 ^ 31 by omega)]
      · rw [if_pos (by omega), if_neg c1]
        by_cases c3 : f < a
        · rw [if_pos c3, if_pos c3]
        · rw [if_neg c3, if_neg c3, minN (show f + 1 < 2 ^ 31 by omega) (show b < 2 ^ 31 by omega)]
    · obtain ⟨b3, g1, g2⟩ := ih (k + 1) n b (by omega) (by omega) ⟨h1, h2, fun j hj hw => by
        by_cases ej : j = k
        · exact absurd (ej ▸ hw) hu
        · exact h3 j (by omega) hw, h4⟩
      refine ⟨b3, ?_, g2⟩
      show f_Decrees_nextChange_8_b _ _ _ _ (f_Decrees_nextChange_8 P u d (nI a) n) _ _ = _
      unfold f_Decrees_nextChange_8_b
      rw [h, if_neg (nI_ge (by omega) (by omega))]
      simp only [ofUse_c (P := P) hk, bd1s, jns, lets, ifz, nI_1]
      rw [if_neg (fun z => hu (Or.inl z)), if_neg (fun z => hu (Or.inr z)), g1]
theorem nc_c {P : PI} {c a : Nat} (hc : c ≤ 33) (h : P 0 5 = nI c) (hi : ∀ j, j < c → (0 ≤ (P 4 j).toInt ∧ (P 4 j).toInt ≤ 9999) ∧ 0 ≤ (P 5 j).toInt ∧ (P 5 j).toInt ≤ 9999) (ha : a ≤ 9999) (u d : Int32) : ∃ b, f_Decrees_nextChange P u d (nI a) = some (nI b) ∧ nxOk P u d c a c b := by
  unfold f_Decrees_nextChange
  rw [lets, lets]
  exact nc_l hc h hi ha u d c 0 mb_fu 10000 (by omega) (fu_lt (by omega)) ⟨by omega, Nat.le_refl _, fun j hj => absurd hj (Nat.not_lt_zero j), Or.inl rfl⟩
/-- between the changes nothing changes -/
theorem qd_const {P : PI} {c a b x : Nat} {u d : Int32} (h : nxOk P u d c a c b) (h1 : a ≤ x) (h2 : x < b) : qd P c u d x = qd P c u d a := by
  have key : ∀ s, (s = 97 ∨ s = 98) → anyR (bT P s u d (nI x)) 0 c = anyR (bT P s u d (nI a)) 0 c := by
    intro s hs
    refine anyR_cong c 0 (fun j _ hj => ?_)
    unfold bT
    by_cases hu : bU P s u d j = true
    · rw [hu, Bool.true_and, Bool.true_and]
      obtain ⟨g1, g2⟩ := h.2.2.1 j (by omega) (by rcases hs with rfl | rfl; exact Or.inl hu; exact Or.inr hu)
      have b10 := h.2.1
      unfold bOn
      rw [nI_toInt (show x < 2 ^ 31 by omega), nI_toInt (show a < 2 ^ 31 by omega), Bool.eq_iff_iff]
      simp only [decide_eq_true_eq]
      omega
    · rw [Bool.not_eq_true] at hu
      rw [hu, Bool.false_and, Bool.false_and]
  unfold qd
  rw [key 97 (Or.inl rfl), key 98 (Or.inr rfl)]
theorem ct_const {q : Nat → Bool} {v : Bool} (a : Nat) : ∀ r, (∀ x, a ≤ x → x < a + r → q x = v) → fb_ct q (a + r) = fb_ct q a + (if v then r else 0)
  | 0, _ => by cases v <;> rfl
  | r + 1, h => by
    rw [← Nat.add_assoc, fb_ct_succ, ct_const a r (fun x h1 h2 => h x h1 (by omega)), h (a + r) (by omega) (by omega)]
    cases v <;> simp <;> omega
theorem fst_app (q : Nat → Bool) : ∀ (r a s : Nat), a + r < 2 ^ 31 → fstQ q a (r + s) = if fstQ q a r = -4 then fstQ q (a + r) s else fstQ q a r
  | 0, a, s, _ => by rw [Nat.zero_add]; exact (if_pos rfl).symm
  | r + 1, a, s, h => by
    rw [show r + 1 + s = (r + s) + 1 by omega, fstQ, fstQ]
    by_cases e : q a = true
    · rw [if_pos e, if_pos e, if_neg (nI_n4 (by omega))]
    · rw [if_neg e, if_neg e, fst_app q r (a + 1) s (by omega), show a + 1 + r = a + (r + 1) by omega]
theorem fst_none {q : Nat → Bool} : ∀ (r a : Nat), (∀ x, a ≤ x → x < a + r → q x = false) → fstQ q a r = -4
  | 0, _, _ => rfl
  | r + 1, a, h => by
    rw [fstQ, if_neg (by rw [h a (by omega) (by omega)]; decide)]
    exact fst_none r (a + 1) (fun x h1 h2 => h x (by omega) (by omega))
/-- the class's search -/
def decSame (P U : PI) : Prop := (∀ q, q ≠ 0 → U q = P q) ∧ U 0 5 = P 0 5
theorem qd_same {P U : PI} (h : decSame P U) (c : Nat) (u d : Int32) : qd U c u d = qd P c u d := by
  funext x
  unfold qd bT bU bOn
  rw [h.1 1 (by decide), h.1 2 (by decide), h.1 3 (by decide), h.1 4 (by decide), h.1 5 (by decide)]
theorem cpn_same {P U : PI} (h : decSame P U) (c a : Nat) : cpn U c a = cpn P c a := by
  unfold cpn
  rw [h.1 4 (by decide), h.1 5 (by decide)]
set_option maxHeartbeats 1000000 in
theorem fq_l {c : Nat} (hc : c ≤ 33) (u d : Int32) : ∀ (r a n : Nat) (P : PI), P 0 5 = nI c → (∀ j, j < c → (0 ≤ (P 4 j).toInt ∧ (P 4 j).toInt ≤ 9999) ∧ 0 ≤ (P 5 j).toInt ∧ (P 5 j).toInt ≤ 9999) → r ≤ 67 → r < n → a ≤ 10000 → (a ≤ 9999 → cpn P c a < r) → P 0 6 = nI (fb_ct (qd P c u d) a) → P 0 7 = fstQ (qd P c u d) 0 a → ∃ U : PI, f_Decrees_findQuarrels_16 u d n (nI a) (nI (67 - r)) P = some U ∧ decSame P U ∧ U 0 6 = nI (fb_ct (qd P c u d) 10000) ∧ U 0 7 = fstQ (qd P c u d) 0 10000 := by
  intro r
  induction r with
  | zero =>
    intro a n P h hi hr hn ha hcp h6 h7
    obtain ⟨n, rfl⟩ : ∃ m, n = m + 1 := ⟨n - 1, by omega⟩
    have ea : a = 10000 := by
      rcases Nat.lt_or_ge 9999 a with q | q
      · omega
      · exact absurd (hcp q) (Nat.not_lt_zero _)
    subst ea
    refine ⟨P, ?_, ⟨fun _ _ => rfl, rfl⟩, h6, h7⟩
    show f_Decrees_findQuarrels_16_b _ _ _ _ _ _ = _
    unfold f_Decrees_findQuarrels_16_b
    rw [if_pos (by decide)]
  | succ r ih =>
    intro a n P h hi hr hn ha hcp h6 h7
    obtain ⟨n, rfl⟩ : ∃ m, n = m + 1 := ⟨n - 1, by omega⟩
    have hs : ¬ (66 : Int32) < nI (67 - (r + 1)) := nI_nlt (a := 66) (by omega) (by decide)
    by_cases ea : a = 10000
    · subst ea
      refine ⟨P, ?_, ⟨fun _ _ => rfl, rfl⟩, h6, h7⟩
      show f_Decrees_findQuarrels_16_b _ _ _ _ _ _ = _
      unfold f_Decrees_findQuarrels_16_b
      rw [if_neg hs, if_pos (by decide)]
    · have ha9 : a ≤ 9999 := by omega
      obtain ⟨b, n1, n2⟩ := nc_c hc h hi ha9 u d
      obtain ⟨b1, b2, b3, b4⟩ := id n2
      have hcb : b ≤ 9999 → cpn P c b < r := by
        intro hb
        rcases b4 with z | ⟨j, hj, hz⟩
        · omega
        · have := cpn_lt b1 hj hz
          have := hcp ha9
          omega
      have hd9 : ¬ (9999 : Int32) < nI a := nI_nlt (a := 9999) (by omega) (by decide)
      have e1 : nI (67 - (r + 1)) + 1 = nI (67 - r) := by rw [nI_1]; congr 1; omega
      have es : nI b - nI a = nI (b - a) := pk_sub (by omega)
      obtain ⟨t, ht⟩ : ∃ t, b = a + t := ⟨b - a, by omega⟩
      have cs : ∀ x, a ≤ x → x < a + t → qd P c u d x = qd P c u d a := fun x g1 g2 => qd_const n2 g1 (by omega)
      have ct := ct_const a t cs
      have fa := fst_app (qd P c u d) a 0 t (by omega)
      rw [Nat.zero_add] at fa
      by_cases q : qd P c u d a = true
      · have q2 := q
        unfold qd at q2
        rw [Bool.and_eq_true] at q2
        rw [if_pos q] at ct
        have ft : fstQ (qd P c u d) a t = nI a := by
          obtain ⟨t', rfl⟩ : ∃ t', t = t' + 1 := ⟨t - 1, by omega⟩
          rw [fstQ, if_pos q]
        rw [ft, ← h7] at fa
        by_cases z : P 0 7 = -4
        · rw [if_pos z] at fa
          have sm : decSame P (mb_uo (mb_uo P 6 (P 0 6 + nI (b - a))) 7 (nI a)) := ⟨fun q hq => by rw [uo_ne _ _ _ hq, uo_ne _ _ _ hq], by simp [uo_ap]⟩
          obtain ⟨U, g1, g2, g3, g4⟩ := ih b n (mb_uo (mb_uo P 6 (P 0 6 + nI (b - a))) 7 (nI a)) (by simp [uo_ap, h]) (fun j hj => hi j hj) (by omega) (by omega) b2 (fun hb => by rw [cpn_same sm]; exact hcb hb) (by rw [qd_same sm]; simp [uo_ap, h6, nI_add]; congr 1; rw [ht, ct]; omega) (by rw [qd_same sm]; simp [uo_ap]; rw [ht, fa])
          rw [qd_same sm] at g3 g4
          refine ⟨U, ?_, ⟨fun q hq => (g2.1 q hq).trans (sm.1 q hq), g2.2.trans sm.2⟩, g3, g4⟩
          show f_Decrees_findQuarrels_16_b _ _ (f_Decrees_findQuarrels_16 u d n) _ _ _ = _
          unfold f_Decrees_findQuarrels_16_b
          rw [if_neg hs, if_neg hd9, n1]
          simp only [tells_c hc h, bd1s, lets, jns, ifz, es, e1]
          rw [if_pos q2.1, if_pos q2.2, if_pos (c := (mb_uo P 6 (P 0 6 + nI (b - a))) 0 7 = -4) (by simp [uo_ap, z]), g1]
        · rw [if_neg z] at fa
          have sm : decSame P (mb_uo P 6 (P 0 6 + nI (b - a))) := ⟨fun q hq => by rw [uo_ne _ _ _ hq], by simp [uo_ap]⟩
          obtain ⟨U, g1, g2, g3, g4⟩ := ih b n (mb_uo P 6 (P 0 6 + nI (b - a))) (by simp [uo_ap, h]) (fun j hj => hi j hj) (by omega) (by omega) b2 (fun hb => by rw [cpn_same sm]; exact hcb hb) (by rw [qd_same sm]; simp [uo_ap, h6, nI_add]; congr 1; rw [ht, ct]; omega) (by rw [qd_same sm]; simp [uo_ap]; rw [ht, fa])
          rw [qd_same sm] at g3 g4
          refine ⟨U, ?_, ⟨fun q hq => (g2.1 q hq).trans (sm.1 q hq), g2.2.trans sm.2⟩, g3, g4⟩
          show f_Decrees_findQuarrels_16_b _ _ (f_Decrees_findQuarrels_16 u d n) _ _ _ = _
          unfold f_Decrees_findQuarrels_16_b
          rw [if_neg hs, if_neg hd9, n1]
          simp only [tells_c hc h, bd1s, lets, jns, ifz, es, e1]
          rw [if_pos q2.1, if_pos q2.2, if_neg (c := (mb_uo P 6 (P 0 6 + nI (b - a))) 0 7 = -4) (by simpa [uo_ap] using z), g1]
      · rw [if_neg q, Nat.add_zero] at ct
        have qf : qd P c u d a = false := by rwa [Bool.not_eq_true] at q
        have ft : fstQ (qd P c u d) a t = -4 := fst_none t a (fun x g1 g2 => (cs x g1 g2).trans qf)
        have fe : fstQ (qd P c u d) 0 b = fstQ (qd P c u d) 0 a := by
          rw [ht, fa, ft]
          split
          · rename_i z; exact z.symm
          · rfl
        obtain ⟨U, g1, g2, g3, g4⟩ := ih b n P h hi (by omega) (by omega) b2 hcb (by rw [h6, ht, ct]) (by rw [h7, fe])
        refine ⟨U, ?_, g2, g3, g4⟩
        show f_Decrees_findQuarrels_16_b _ _ (f_Decrees_findQuarrels_16 u d n) _ _ _ = _
        unfold f_Decrees_findQuarrels_16_b
        rw [if_neg hs, if_neg hd9, n1]
        simp only [tells_c hc h, bd1s, lets, jns, ifz, e1]
        have q2 := qf
        unfold qd at q2
        rw [Bool.and_eq_false_iff] at q2
        rcases q2 with q2 | q2
        · rw [if_neg (by rw [q2]; decide), g1]
        · rw [if_neg (c := anyR (bT P 98 u d (nI a)) 0 c = true) (by rw [q2]; decide), g1]
          split <;> rfl
theorem cpn_le (P : PI) {c : Nat} (hc : c ≤ 33) (a : Nat) : cpn P c a < 67 := by
  unfold cpn
  have h1 := fb_ct_le (fun j => decide ((a : Int) < (P 4 j).toInt)) c
  have h2 := fb_ct_le (fun j => decide ((a : Int) < (P 5 j).toInt + 1)) c
  omega
set_option maxHeartbeats 1000000 in
theorem st_quarrels {P7 PR : PI} (h : rDecrees P7 PR) (x1 x2 x3 : Int32) : ∃ (r : Int32) (U : PI), f_One_quarrels P7 x1 x2 x3 = some (r, U) ∧ f_Ref_quarrels PR x1 x2 x3 = some r ∧ rDecrees U PR := by
  obtain ⟨c, h⟩ := h
  unfold f_One_quarrels f_Ref_quarrels
  simp only [unum_c, dist_c, wi_c, in_c, bd1s, ifz, lets, jns]
  simp only [tt, Int32.reduceToInt, Int64.reduceToInt]
  by_cases ok : (0 ≤ x1.toInt ∧ x1.toInt ≤ 15) ∧ (0 ≤ x2.toInt ∧ x2.toInt ≤ 5) ∧ 0 ≤ x3.toInt ∧ x3.toInt ≤ 1
  · simp only [if_pos ok.1, if_pos ok.2.1, if_pos ok.2.2]
    obtain ⟨w, hw, rfl⟩ := ofI (n := 2) (x := x3) ok.2.2.1 (by omega) (by decide)
    have sm : decSame P7 (mb_uo (mb_uo P7 6 0) 7 (-4)) := ⟨fun q hq => by rw [uo_ne _ _ _ hq, uo_ne _ _ _ hq], by simp [uo_ap]⟩
    obtain ⟨U, g1, g2, g3, g4⟩ := fq_l h.1 x1 x2 67 0 mb_fu (mb_uo (mb_uo P7 6 0) 7 (-4)) (by simp [uo_ap, h.2.1]) (fun j hj => by
      obtain ⟨-, -, -, -, -, e⟩ := h.2.2.2 j hj
      exact ⟨e.2.2.1, e.2.2.2⟩) (by omega) (fu_lt (by omega)) (by omega) (fun _ => cpn_le _ h.1 0) (by simp [uo_ap]; rfl) (by simp [uo_ap]; rfl)
    rw [qd_same sm] at g3 g4
    have g1' : f_Decrees_findQuarrels P7 x1 x2 = some U := by
      unfold f_Decrees_findQuarrels
      rw [lets, lets, lets, lets]
      exact g1
    have us : decSame P7 U := ⟨fun q hq => (g2.1 q hq).trans (sm.1 q hq), g2.2.trans sm.2⟩
    have hU : rDecrees U PR := by
      refine ⟨c, h.1, us.2.trans h.2.1, h.2.2.1, fun j hj => ?_⟩
      rw [us.1 1 (by decide), us.1 2 (by decide), us.1 3 (by decide), us.1 4 (by decide), us.1 5 (by decide)]
      exact h.2.2.2 j hj
    rw [g1', bd1s, g3, g4]
    rcases (show w = 0 ∨ w = 1 by omega) with rfl | rfl
    · have rr := rq_l h x1 x2 0 (Or.inl rfl) (fun (x4_6 : Int32) => (if (0 : Int32) = 0 then some x4_6 else some (-4 : Int32))) 10000 0 mb_fu (by omega) (fu_lt (by omega))
      refine ⟨_, U, by rw [if_pos (by decide)], ?_, hU⟩
      refine Eq.trans (show _ = _ from rr) ?_
      rw [if_neg (fun z => absurd z.1 (by decide)), if_pos rfl]
    · have rr := rq_l h x1 x2 1 (Or.inr rfl) (fun (x4_6 : Int32) => (if (1 : Int32) = 0 then some x4_6 else some (-4 : Int32))) 10000 0 mb_fu (by omega) (fu_lt (by omega))
      refine ⟨_, U, by rw [if_neg (by decide)], ?_, hU⟩
      refine Eq.trans (show _ = _ from rr) ?_
      by_cases z : fstQ (qd P7 c x1 x2) 0 10000 = -4
      · rw [if_neg (fun q => q.2 z), if_neg (by decide), z]
      · rw [if_pos ⟨rfl, z⟩]
  · refine ⟨-1, P7, ?_, ?_, ⟨c, h⟩⟩
    · (repeat' split) <;> first | rfl | (exfalso; omega)
    · (repeat' split) <;> first | rfl | (exfalso; omega)
