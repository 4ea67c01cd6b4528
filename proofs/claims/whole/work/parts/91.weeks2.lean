theorem rdOk_o {n w j : Nat} {P U PR V : PI} (h : rdOk n w P PR j (8 * j)) (a : ∀ q, 3 ≤ q → q ≤ 11 → U q j = P q j) (b : ∀ m, m < 8 → V 19 (8 * j + m) = PR 19 (8 * j + m)) : rdOk n w U V j (8 * j) := by
  have b0 := b 0 (by omega)
  rw [Nat.add_zero] at b0
  unfold rdOk
  rw [a 3 (by omega) (by omega), a 4 (by omega) (by omega), a 5 (by omega) (by omega), a 6 (by omega) (by omega), a 7 (by omega) (by omega), a 8 (by omega) (by omega), a 9 (by omega) (by omega), a 10 (by omega) (by omega), a 11 (by omega) (by omega), b0, b 1 (by omega), b 2 (by omega), b 3 (by omega), b 4 (by omega), b 5 (by omega), b 6 (by omega), b 7 (by omega)]
  exact h
/-- a rod that was seized before: a week more -/
theorem rdOk_up {n w j k : Nat} {P PR : PI} (h : rdOk n w P PR j k) (hs : ¬ P 11 j = 0) : rdOk n (w + 1) P PR j k := by
  obtain ⟨h1, h2, fw, wr, h3, h4, h5⟩ := h
  refine ⟨h1, h2, fw, wr, h3, h4, ?_⟩
  rcases h5 with ⟨-, z, -⟩ | ⟨z, z1, z2, z3, z4⟩
  · exact absurd z hs
  · exact Or.inr ⟨z, by omega, z2, z3, z4⟩
set_option maxHeartbeats 4000000 in
theorem wk_l {n cc c w : Nat} {P1 P7 : PI} (hc : c ≤ 12) (hw : w ≤ 100) (vis tol : Int32) (K K2 : PI → PL → Option (PI × PL)) : ∀ (r i f1 f2 : Nat) (P9 : PI) (L9 : PL) (PR : PI) (LR : PL), i + r = c → r < f1 → r < f2 → rUnits n P1 PR → rDecN cc P7 PR → PR 0 24 = tol → P9 0 0 = nI c → P9 0 1 = nI w → PR 18 0 = nI c → PR 20 0 = nI w → (∀ j, j < i → rdOk n (w + 1) P9 PR j (8 * j)) → (∀ j, i ≤ j → j < c → rdOk n w P9 PR j (8 * j)) → (∀ d, d < 6 → L9 12 d = LR 21 d ∧ L9 13 d = LR 22 d) →
    ∃ (U : PI) (LU : PL) (V : PI) (LV : PL), f_Rods_passWeek_3 P1 P7 tol vis K f1 (nI i) P9 L9 = K U LU ∧ f_Ref_goWeek_2 vis K2 f2 (nI (8 * i)) PR LR = K2 V LV ∧ U 0 0 = nI c ∧ U 0 1 = nI w ∧ eqx [19] [] PR V ∧ eqL [21, 22] [] LR LV ∧ (∀ j, j < c → rdOk n (w + 1) U V j (8 * j)) ∧ (∀ d, d < 6 → LU 12 d = LV 21 d ∧ LU 13 d = LV 22 d) ∧ (∀ j, 96 ≤ j → V 19 j = PR 19 j) ∧ ∀ j, 6 ≤ j → LV 21 j = LR 21 j ∧ LV 22 j = LR 22 j := by
  intro r
  induction r with
  | zero =>
    intro i f1 f2 P9 L9 PR LR e hf1 hf2 hu hdc htol h0 h1 h18 h20 hA hB hL
    obtain ⟨f1, rfl⟩ : ∃ m, f1 = m + 1 := ⟨f1 - 1, by omega⟩
    obtain ⟨f2, rfl⟩ : ∃ m, f2 = m + 1 := ⟨f2 - 1, by omega⟩
    have ei : i = c := by omega
    subst ei
    refine ⟨P9, L9, PR, LR, ?_, ?_, h0, h1, eqx_rf _ _ _, eqL_rf _ _ _, hA, hL, fun _ _ => rfl, fun _ _ => ⟨rfl, rfl⟩⟩
    · show f_Rods_passWeek_3_b _ _ _ _ _ _ _ _ _ = _
      unfold f_Rods_passWeek_3_b
      rw [h0, if_pos (nI_le (Nat.le_refl _) (by omega))]
    · show f_Ref_goWeek_2_b _ _ _ _ _ _ = _
      unfold f_Ref_goWeek_2_b
      rw [zero3, cl0, h18, ix8, if_pos (nI_le (Nat.le_refl _) (by omega))]
  | succ r ih =>
    intro i f1 f2 P9 L9 PR LR e hf1 hf2 hu hdc htol h0 h1 h18 h20 hA hB hL
    obtain ⟨f1, rfl⟩ : ∃ m, f1 = m + 1 := ⟨f1 - 1, by omega⟩
    obtain ⟨f2, rfl⟩ : ∃ m, f2 = m + 1 := ⟨f2 - 1, by omega⟩
    have hi : i < c := by omega
    have hi12 : i < 12 := by omega
    have hR := hB i (Nat.le_refl i) hi
    obtain ⟨⟨q0, q1, q2, q3, q4, q5, q6⟩, ⟨⟨u, hun, eu⟩, bd, bo, bw, bs⟩, fw, wr, e7, e8, hz⟩ := id hR
    have hn16 := hu.1
    rcases hz with ⟨z7, z11, zw⟩ | ⟨z, z0, z7, z11, zw⟩
    · -- in hand
      obtain ⟨d, hd, ed⟩ := ofI (n := 6) bd.1 (by omega) (by decide)
      have sz := hu.2.2.2.2 u hun
      have su := (hu.2.2.2.1 u (by omega)).2.1
      have e8' : P9 8 i = nI (w - fw) := by rw [e8]; congr 1; omega
      have rng : -500 ≤ (offv (P9 5 i) (P9 6 i) (P9 8 i)).toInt ∧ (offv (P9 5 i) (P9 6 i) (P9 8 i)).toInt ≤ 200 := off_rng bo bw e8 (by omega)
      obtain ⟨LU, s1, s2⟩ := sell_ok (P1 := P1) (L9 := L9) hi12 (show u < 16 by omega) eu hd ed bs (by rw [su]; exact ⟨by have := sz.2.1; omega, sz.2.2.1⟩) rng
      obtain ⟨b, fb1, fb2⟩ := forf_ok (P9 := mb_u2 P9 8 i (nI (w - fw + 1))) hdc hi12 (show 8 * i + 7 < 288 by omega) (by rw [u2_ap, if_neg (fun z => absurd z.1 (by decide))]; exact q0) (by rw [u2_ap, if_neg (fun z => absurd z.1 (by decide))]; exact q1) (by rw [u2_ap, if_neg (fun z => absurd z.1 (by decide))]; exact q2) (by rw [u2_ap, if_neg (fun z => absurd z.1 (by decide))]; exact q3) (nI (w - fw + 1)) (nI w)
      have gb := gwk_b (LR := LR) hc hi hw h18 h20 z7 (q5.symm.trans e7) (by omega) (q0.symm.trans eu) (show u < 16 by omega) (q1.symm.trans ed) hd vis fb2 K2 (f_Ref_goWeek_2 vis K2 f2)
      rw [← q4, ← q2, ← q3, ← su, ← e8'] at gb
      generalize hLV : mb_u2L (mb_u2L LR 21 d (LR 21 d + cz ((P9 9 i).toInt64 * (P1 2 u).toInt64) (offv (P9 5 i) (P9 6 i) (P9 8 i)))) 22 d (LR 22 d + gz ((P9 9 i).toInt64 * (P1 2 u).toInt64) (offv (P9 5 i) (P9 6 i) (P9 8 i))) = LV at gb
      have lv1 : eqL [21, 22] [] LR LV := by rw [← hLV]; exact eqL_u2 (eqL_u2 (eqL_rf _ _ _) (by decide) (by decide) _ _) (by decide) (by decide) _ _
      have lv2 : ∀ x, x < 6 → LU 12 x = LV 21 x ∧ LU 13 x = LV 22 x := by
        intro x hx
        obtain ⟨t1, t2⟩ := s2 x
        have w1 : LV 21 x = if x = d then LR 21 d + cz ((P9 9 i).toInt64 * (P1 2 u).toInt64) (offv (P9 5 i) (P9 6 i) (P9 8 i)) else LR 21 x := by
          rw [← hLV, u2L_ap, if_neg (show ¬ (21 = 22 ∧ x = d) from fun z => absurd z.1 (by decide)), u2L_ap]
          by_cases ex : x = d
          · rw [if_pos (show 21 = 21 ∧ x = d from ⟨rfl, ex⟩), if_pos ex]
          · rw [if_neg (show ¬ (21 = 21 ∧ x = d) from fun z => ex z.2), if_neg ex]
        have w2 : LV 22 x = if x = d then LR 22 d + gz ((P9 9 i).toInt64 * (P1 2 u).toInt64) (offv (P9 5 i) (P9 6 i) (P9 8 i)) else LR 22 x := by
          rw [← hLV, u2L_ap]
          by_cases ex : x = d
          · rw [if_pos (show 22 = 22 ∧ x = d from ⟨rfl, ex⟩), if_pos ex]
          · rw [if_neg (show ¬ (22 = 22 ∧ x = d) from fun z => ex z.2), if_neg ex, u2L_ap, if_neg (show ¬ (22 = 21 ∧ x = d) from fun z => ex z.2)]
        rw [t1, t2, w1, w2, (hL d hd).1, (hL d hd).2, (hL x hx).1, (hL x hx).2]
        exact ⟨rfl, rfl⟩
      have lv3 : ∀ j, 6 ≤ j → LV 21 j = LR 21 j ∧ LV 22 j = LR 22 j := by
        intro j hj
        rw [← hLV, u2L_ap, if_neg (by omega), u2L_ap, if_neg (by omega), u2L_ap, if_neg (by omega), u2L_ap, if_neg (by omega)]
        exact ⟨rfl, rfl⟩
      -- the class's turn, up to the visit
      have cb : ∀ S, f_Rods_passWeek_3_b P1 P7 tol vis K S (nI i) P9 L9 = (if ((vis >>> (nI d &&& 31)) &&& 1) = 0 then S (nI (i + 1)) (mb_u2 P9 8 i (nI (w - fw + 1))) LU else if b = true then S (nI (i + 1)) (mb_u2 (mb_u2 P9 8 i (nI (w - fw + 1))) 11 i 1) LU else S (nI (i + 1)) (mb_u2 (mb_u2 P9 8 i (nI (w - fw + 1))) 10 i 1) LU) := by
        intro S
        have p4 : (mb_u2 P9 8 i (nI (w - fw + 1))) 4 i = nI d := by rw [u2_ap, if_neg (fun z => absurd z.1 (by decide))]; exact ed
        have p8 : (mb_u2 P9 8 i (nI (w - fw + 1))) 8 i = nI (w - fw + 1) := by rw [u2_ap, if_pos ⟨rfl, rfl⟩]
        have p1 : (mb_u2 P9 8 i (nI (w - fw + 1))) 0 1 = nI w := by rw [u2_ap, if_neg (fun z => absurd z.1 (by decide))]; exact h1
        unfold f_Rods_passWeek_3_b
        rw [h0, if_neg (nI_ge hi (by omega)), chkN hi12 (by decide), nI_clamp (by omega), if_pos z11, s1]
        simp only [bd1s, chkN hi12 (by decide), letsN, e8', nI_1, p4, p8, p1, ← htol, fb1, ifz]
      -- what comes behind it, in each of the three cases
      have fin : ∀ (U : PI) (V : PI), (∀ q, (q < 8 ∨ q = 9) → U q = P9 q) → (∀ q j, j ≠ i → U q j = P9 q j) → U 8 i = nI (w - fw + 1) → (∀ m, m < 6 → V 19 (8 * i + m) = PR 19 (8 * i + m)) → U 10 i = V 19 (8 * i + 6) → ((V 19 (8 * i + 7) = -1 ∧ U 11 i = 0) ∨ (V 19 (8 * i + 7) = nI w ∧ U 11 i = 1)) → (∀ j, (j < 8 * i ∨ 8 * i + 8 ≤ j) → V 19 j = PR 19 j) → eqx [19] [] PR V → ∃ (U2 : PI) (LU2 : PL) (V2 : PI) (LV2 : PL), f_Rods_passWeek_3 P1 P7 tol vis K f1 (nI (i + 1)) U LU = K U2 LU2 ∧ f_Ref_goWeek_2 vis K2 f2 (nI (8 * i + 8)) V LV = K2 V2 LV2 ∧ U2 0 0 = nI c ∧ U2 0 1 = nI w ∧ eqx [19] [] PR V2 ∧ eqL [21, 22] [] LR LV2 ∧ (∀ j, j < c → rdOk n (w + 1) U2 V2 j (8 * j)) ∧ (∀ d, d < 6 → LU2 12 d = LV2 21 d ∧ LU2 13 d = LV2 22 d) ∧ (∀ j, 96 ≤ j → V2 19 j = PR 19 j) ∧ ∀ j, 6 ≤ j → LV2 21 j = LR 21 j ∧ LV2 22 j = LR 22 j := by
        intro U V u1 u2 u3 v1 v2 v3 v4 v5
        have hu' : rUnits n P1 V := by
          obtain ⟨y1, y2, y3, y4, y5⟩ := hu
          refine ⟨y1, y2, (v5.2 0 (by decide)).trans y3, ?_, ?_⟩
          · rw [v5.1 2 (by decide) (by decide), v5.1 3 (by decide) (by decide), v5.1 4 (by decide) (by decide)]; exact y4
          · rw [v5.1 2 (by decide) (by decide), v5.1 3 (by decide) (by decide), v5.1 4 (by decide) (by decide)]; exact y5
        have hd' : rDecN cc P7 V := by
          obtain ⟨y1, y2, y3, y4⟩ := hdc
          refine ⟨y1, y2, ?_, ?_⟩
          · rw [v5.1 14 (by decide) (by decide)]; exact y3
          · rw [v5.1 15 (by decide) (by decide)]; exact y4
        obtain ⟨U2, LU2, V2, LV2, g1, g2, g3, g4, g5, g6, g7, g8, g9, g10⟩ := ih (i + 1) f1 f2 U LU V LV (by omega) (by omega) (by omega) hu' hd' ((v5.2 24 (by decide)).trans htol) (by rw [u1 0 (by omega)]; exact h0) (by rw [u1 0 (by omega)]; exact h1) (by rw [v5.1 18 (by decide) (by decide)]; exact h18) (by rw [v5.1 20 (by decide) (by decide)]; exact h20) (fun j hj => by
            by_cases ej : j = i
            · subst ej
              have v10 := v1 0 (by omega)
              rw [Nat.add_zero] at v10
              refine ⟨?_, ?_, fw, w - fw + 1, by rw [u1 7 (by omega)]; exact e7, u3, ?_⟩
              · rw [u1 3 (by omega), u1 4 (by omega), u1 5 (by omega), u1 6 (by omega), u1 9 (by omega), u1 7 (by omega), v10, v1 1 (by omega), v1 2 (by omega), v1 3 (by omega), v1 4 (by omega), v1 5 (by omega)]
                exact ⟨q0, q1, q2, q3, q4, q5, v2⟩
              · rw [u1 3 (by omega), u1 4 (by omega), u1 5 (by omega), u1 6 (by omega), u1 9 (by omega)]
                exact ⟨⟨u, hun, eu⟩, bd, bo, bw, bs⟩
              · rcases v3 with ⟨x1, x2⟩ | ⟨x1, x2⟩
                · exact Or.inl ⟨x1, x2, by omega⟩
                · exact Or.inr ⟨w, by omega, x1, x2, by omega⟩
            · exact rdOk_o (hA j (by omega)) (fun q _ _ => u2 q j ej) (fun m hm => v4 _ (by omega))) (fun j hj1 hj2 => rdOk_o (hB j (by omega) hj2) (fun q _ _ => u2 q j (by omega)) (fun m hm => v4 _ (by omega))) lv2
        refine ⟨U2, LU2, V2, LV2, g1, g2, g3, g4, eqx_tr v5 g5, eqL_tr lv1 g6, g7, g8, fun j hj => (g9 j hj).trans (v4 j (by omega)), fun j hj => ?_⟩
        obtain ⟨x1, x2⟩ := g10 j hj
        rw [x1, x2]
        exact lv3 j hj
      have um : ∀ (q j : Nat) (v : Int32), q ≠ 8 → (mb_u2 P9 8 i v) q j = P9 q j := fun q j v hq => by rw [u2_ap, if_neg (fun z => hq z.1)]
      rcases bit1 (vis >>> (nI d &&& 31)) with y | y
      · obtain ⟨U2, LU2, V2, LV2, g1, g2, g3⟩ := fin (mb_u2 P9 8 i (nI (w - fw + 1))) PR (fun q hq => u2_ne _ _ _ (by omega)) (fun q j hj => by rw [u2_ap, if_neg (fun z => hj z.2)]) (by rw [u2_ap, if_pos ⟨rfl, rfl⟩]) (fun _ _ => rfl) (by rw [um 10 i _ (by decide)]; exact q6) (Or.inl ⟨z7, by rw [um 11 i _ (by decide)]; exact z11⟩) (fun _ _ => rfl) (eqx_rf _ _ _)
        refine ⟨U2, LU2, V2, LV2, ?_, ?_, g3⟩
        · show f_Rods_passWeek_3_b _ _ _ _ _ (f_Rods_passWeek_3 P1 P7 tol vis K f1) _ _ _ = _
          rw [cb, if_pos y, g1]
        · show f_Ref_goWeek_2_b _ _ (f_Ref_goWeek_2 vis K2 f2) _ _ _ = _
          rw [gb, y, if_neg (by decide), g2]
      · by_cases hb : b = true
        · obtain ⟨U2, LU2, V2, LV2, g1, g2, g3⟩ := fin (mb_u2 (mb_u2 P9 8 i (nI (w - fw + 1))) 11 i 1) (mb_u2 PR 19 (8 * i + 7) (nI w)) (fun q hq => by rw [u2_ne _ _ _ (by omega), u2_ne _ _ _ (by omega)]) (fun q j hj => by rw [u2_ap, if_neg (fun z => hj z.2), u2_ap, if_neg (fun z => hj z.2)]) (by rw [u2_ap, if_neg (fun z => absurd z.1 (by decide)), u2_ap, if_pos ⟨rfl, rfl⟩]) (fun m hm => by rw [u2_ap, if_neg (by omega)]) (by rw [u2_ap, if_neg (fun z => absurd z.1 (by decide)), um 10 i _ (by decide), u2_ap, if_neg (by omega)]; exact q6) (Or.inr ⟨by rw [u2_ap, if_pos ⟨rfl, rfl⟩], by rw [u2_ap, if_pos ⟨rfl, rfl⟩]⟩) (fun j hj => by rw [u2_ap, if_neg (by omega)]) (eqx_u2 (eqx_rf _ _ _) (by decide) (by decide) _ _)
          refine ⟨U2, LU2, V2, LV2, ?_, ?_, g3⟩
          · show f_Rods_passWeek_3_b _ _ _ _ _ (f_Rods_passWeek_3 P1 P7 tol vis K f1) _ _ _ = _
            rw [cb, y, if_neg (by decide), if_pos hb, g1]
          · show f_Ref_goWeek_2_b _ _ (f_Ref_goWeek_2 vis K2 f2) _ _ _ = _
            rw [gb, if_pos y, if_pos hb, g2]
        · obtain ⟨U2, LU2, V2, LV2, g1, g2, g3⟩ := fin (mb_u2 (mb_u2 P9 8 i (nI (w - fw + 1))) 10 i 1) (mb_u2 PR 19 (8 * i + 6) 1) (fun q hq => by rw [u2_ne _ _ _ (by omega), u2_ne _ _ _ (by omega)]) (fun q j hj => by rw [u2_ap, if_neg (fun z => hj z.2), u2_ap, if_neg (fun z => hj z.2)]) (by rw [u2_ap, if_neg (fun z => absurd z.1 (by decide)), u2_ap, if_pos ⟨rfl, rfl⟩]) (fun m hm => by rw [u2_ap, if_neg (by omega)]) (by rw [u2_ap, if_pos ⟨rfl, rfl⟩, u2_ap, if_pos ⟨rfl, rfl⟩]) (Or.inl ⟨by rw [u2_ap, if_neg (by omega)]; exact z7, by rw [u2_ap, if_neg (fun z => absurd z.1 (by decide)), um 11 i _ (by decide)]; exact z11⟩) (fun j hj => by rw [u2_ap, if_neg (by omega)]) (eqx_u2 (eqx_rf _ _ _) (by decide) (by decide) _ _)
          refine ⟨U2, LU2, V2, LV2, ?_, ?_, g3⟩
          · show f_Rods_passWeek_3_b _ _ _ _ _ (f_Rods_passWeek_3 P1 P7 tol vis K f1) _ _ _ = _
            rw [cb, y, if_neg (by decide), if_neg hb, g1]
          · show f_Ref_goWeek_2_b _ _ (f_Ref_goWeek_2 vis K2 f2) _ _ _ = _
            rw [gb, if_pos y, if_neg hb, g2]
    · -- seized before
      have n11 : ¬ P9 11 i = 0 := by rw [z11]; decide
      obtain ⟨U2, LU2, V2, LV2, g1, g2, g3⟩ := ih (i + 1) f1 f2 P9 L9 PR LR (by omega) (by omega) (by omega) hu hdc htol h0 h1 h18 h20 (fun j hj => by
        by_cases ej : j = i
        · subst ej
          exact rdOk_up hR n11
        · exact hA j (by omega)) (fun j hj1 hj2 => hB j (by omega) hj2) hL
      refine ⟨U2, LU2, V2, LV2, ?_, ?_, g3⟩
      · show f_Rods_passWeek_3_b _ _ _ _ _ (f_Rods_passWeek_3 P1 P7 tol vis K f1) _ _ _ = _
        unfold f_Rods_passWeek_3_b
        rw [h0, if_neg (nI_ge hi (by omega)), chkN hi12 (by decide), nI_clamp (by omega), if_neg n11, letsN, nI_1, g1]
      · show f_Ref_goWeek_2_b _ _ (f_Ref_goWeek_2 vis K2 f2) _ _ _ = _
        unfold f_Ref_goWeek_2_b
        rw [zero3, cl0, h18, ix8, if_neg (nI_ge (by omega) (by omega)), nI_7, chkN (by omega) (by decide), nI_clamp (by omega), z7, if_pos (nI_pos' (by omega)), letsN, nI_8, ← g2]
        congr 2
