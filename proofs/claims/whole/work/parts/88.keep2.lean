theorem rOwn_kept {P0 PR V : PI} (h : rOwn P0 PR) (hV : eqx [18, 19, 20, 23] [] PR V) {m : Nat} (hm : m ≤ 2) : rOwn (mb_uo P0 14 (nI m)) (mb_uo V 23 (nI m)) := by
  obtain ⟨a1, a2, a3, a4, a5⟩ := h
  have v26 : V 26 = PR 26 := hV.1 26 (by decide) (by decide)
  have v24 : V 0 24 = PR 0 24 := hV.2 24 (by decide)
  refine ⟨fun j hj => ?_, ?_, ?_, ?_, ⟨m, hm, ?_⟩⟩
  · rw [uo_ap, if_neg (fun z => absurd z.1 (by decide)), uo_ap, if_neg (fun z => absurd z.1 (by decide)), v26]
    exact a1 j hj
  · rw [uo_ap, if_neg (by decide), uo_ap, if_neg (by decide), v24]
    exact a2
  · rw [uo_ap, if_neg (by decide), v24]
    exact a3
  · rw [uo_ap, if_pos ⟨rfl, rfl⟩, uo_ap, if_pos ⟨rfl, rfl⟩]
  · rw [uo_ap, if_pos ⟨rfl, rfl⟩]
/-- the rods and the people of a reference that differs in the row of kept things alone -/
theorem rRods_uo {t n : Nat} {P V : PI} {L LV : PL} (h : rRods t n P V L LV) (v : Int32) : rRods t n P (mb_uo V 23 v) L LV := h
theorem rFolk_uo {t : Nat} {P V : PI} (h : rFolk t P V) (v : Int32) : rFolk t P (mb_uo V 23 v) := h
set_option maxHeartbeats 2000000 in
theorem st_keep {n : Nat} {P0 P9 P11 P20 P21 P22 P23 PR : PI} {L9 L20 L21 LR : PL} (h0 : rOwn P0 PR) (r9 : rRods 0 n P9 PR L9 LR) (r20 : rRods 1 n P20 PR L20 LR) (r21 : rRods 2 n P21 PR L21 LR) (f11 : rFolk 0 P11 PR) (f22 : rFolk 1 P22 PR) (f23 : rFolk 2 P23 PR) : ∃ (r : Int32) (U0 U20 : PI) (M20 : PL) (U21 : PI) (M21 : PL) (U22 U23 V : PI) (LV : PL), f_One_keep P0 P9 L9 P11 P20 L20 P21 L21 P22 P23 = some (r, U0, U20, M20, U21, M21, U22, U23) ∧ f_Ref_keep PR LR = some (r, V, LV) ∧ rOwn U0 V ∧ rRods 0 n P9 V L9 LV ∧ rRods 1 n U20 V M20 LV ∧ rRods 2 n U21 V M21 LV ∧ rFolk 0 P11 V ∧ rFolk 1 U22 V ∧ rFolk 2 U23 V ∧ eqx [18, 19, 20, 23] [23] PR V ∧ eqL [21, 22] [] LR LV := by
  obtain ⟨a1, a2, a3, a4, m, hm, em⟩ := id h0
  unfold f_One_keep f_Ref_keep
  rw [a4, em]
  rcases (show m = 0 ∨ m = 1 ∨ m = 2 by omega) with rfl | rfl | rfl
  · obtain ⟨V, LV, b1, b2, b3, b4, b5, b6, b7, b8, b9⟩ := copy_c (t1 := 0) (t2 := 1) (by decide) (by decide) (by decide) PR LR
    obtain ⟨U, LU, c1, c2, c3, c4, c5⟩ := rcopy P20 P9 L20 L9
    obtain ⟨F, d1, d2⟩ := fcopy P22 P11
    have k0 := b9 0 (by decide)
    have k2 := b9 2 (by decide)
    have b1' : f_Ref_copy PR LR 0 ((1 : Int32) + nI 0) = some (V, LV) := b1
    have v23 : V 0 23 = nI 0 := (b2.2 23 (by decide)).trans em
    refine ⟨nI 1, mb_uo P0 14 (nI 1), U, LU, P21, L21, F, P23, mb_uo V 23 (nI 1), LV, ?_, ?_, rOwn_kept h0 b2 (by decide), ?_, ?_, ?_, ?_, ?_, ?_, eqx_uo (eqx_mono b2 (fun _ h => h) (fun _ h => absurd h List.not_mem_nil)) (by decide) _, b3⟩
    · rw [if_pos (by decide), chkN (by decide) (by decide), if_pos nI_0, c1, bd2s, chkN (by decide) (by decide), if_pos nI_0, d1, bd1s, lets]
      rfl
    · rw [if_neg (by decide), b1', bd2s, lets, v23]
      rfl
    · exact rRods_uo (rRods_cong (t1 := 0) (t2 := 0) r9 (Nat.le_refl n) rfl rfl (fun _ _ _ _ _ => rfl) k0.1 k0.2.1 k0.2.2.1 (fun _ _ => ⟨rfl, rfl⟩) k0.2.2.2.2) _
    · exact rRods_uo (rRods_cong (t1 := 0) (t2 := 1) r9 (Nat.le_refl n) c2 c3 c4 b4 b5 b6 c5 b8) _
    · exact rRods_uo (rRods_cong (t1 := 2) (t2 := 2) r21 (Nat.le_refl n) rfl rfl (fun _ _ _ _ _ => rfl) k2.1 k2.2.1 k2.2.2.1 (fun _ _ => ⟨rfl, rfl⟩) k2.2.2.2.2) _
    · exact rFolk_uo (rFolk_cong (t1 := 0) (t2 := 0) f11 (fun _ _ _ _ _ => rfl) k0.2.2.2.1) _
    · exact rFolk_uo (rFolk_cong (t1 := 0) (t2 := 1) f11 d2 b7) _
    · exact rFolk_uo (rFolk_cong (t1 := 2) (t2 := 2) f23 (fun _ _ _ _ _ => rfl) k2.2.2.2.1) _
  · obtain ⟨V, LV, b1, b2, b3, b4, b5, b6, b7, b8, b9⟩ := copy_c (t1 := 0) (t2 := 2) (by decide) (by decide) (by decide) PR LR
    obtain ⟨U, LU, c1, c2, c3, c4, c5⟩ := rcopy P21 P9 L21 L9
    obtain ⟨F, d1, d2⟩ := fcopy P23 P11
    have k0 := b9 0 (by decide)
    have k1 := b9 1 (by decide)
    have b1' : f_Ref_copy PR LR 0 ((1 : Int32) + nI 1) = some (V, LV) := b1
    have v23 : V 0 23 = nI 1 := (b2.2 23 (by decide)).trans em
    refine ⟨nI 2, mb_uo P0 14 (nI 2), P20, L20, U, LU, P22, F, mb_uo V 23 (nI 2), LV, ?_, ?_, rOwn_kept h0 b2 (by decide), ?_, ?_, ?_, ?_, ?_, ?_, eqx_uo (eqx_mono b2 (fun _ h => h) (fun _ h => absurd h List.not_mem_nil)) (by decide) _, b3⟩
    · rw [if_pos (by decide), chkN (by decide) (by decide), if_neg (by decide), c1, bd2s, chkN (by decide) (by decide), if_neg (by decide), d1, bd1s, lets]
      rfl
    · rw [if_neg (by decide), b1', bd2s, lets, v23]
      rfl
    · exact rRods_uo (rRods_cong (t1 := 0) (t2 := 0) r9 (Nat.le_refl n) rfl rfl (fun _ _ _ _ _ => rfl) k0.1 k0.2.1 k0.2.2.1 (fun _ _ => ⟨rfl, rfl⟩) k0.2.2.2.2) _
    · exact rRods_uo (rRods_cong (t1 := 1) (t2 := 1) r20 (Nat.le_refl n) rfl rfl (fun _ _ _ _ _ => rfl) k1.1 k1.2.1 k1.2.2.1 (fun _ _ => ⟨rfl, rfl⟩) k1.2.2.2.2) _
    · exact rRods_uo (rRods_cong (t1 := 0) (t2 := 2) r9 (Nat.le_refl n) c2 c3 c4 b4 b5 b6 c5 b8) _
    · exact rFolk_uo (rFolk_cong (t1 := 0) (t2 := 0) f11 (fun _ _ _ _ _ => rfl) k0.2.2.2.1) _
    · exact rFolk_uo (rFolk_cong (t1 := 1) (t2 := 1) f22 (fun _ _ _ _ _ => rfl) k1.2.2.2.1) _
    · exact rFolk_uo (rFolk_cong (t1 := 0) (t2 := 2) f11 d2 b7) _
  · exact ⟨-3, P0, P20, L20, P21, L21, P22, P23, PR, LR, by rw [if_neg (by decide)], by rw [if_pos (by decide)], h0, r9, r20, r21, f11, f22, f23, eqx_rf _ _ _, eqL_rf _ _ _⟩
set_option maxHeartbeats 2000000 in
theorem st_back {n : Nat} {P0 P9 P11 P20 P21 P22 P23 PR : PI} {L9 L20 L21 LR : PL} (h0 : rOwn P0 PR) (r9 : rRods 0 n P9 PR L9 LR) (r20 : rRods 1 n P20 PR L20 LR) (r21 : rRods 2 n P21 PR L21 LR) (f11 : rFolk 0 P11 PR) (f22 : rFolk 1 P22 PR) (f23 : rFolk 2 P23 PR) : ∃ (r : Int32) (U0 U9 : PI) (M9 : PL) (U11 V : PI) (LV : PL), f_One_back P0 P9 L9 P11 P20 L20 P21 L21 P22 P23 = some (r, U0, U9, M9, U11) ∧ f_Ref_back PR LR = some (r, V, LV) ∧ rOwn U0 V ∧ rRods 0 n U9 V M9 LV ∧ rRods 1 n P20 V L20 LV ∧ rRods 2 n P21 V L21 LV ∧ rFolk 0 U11 V ∧ rFolk 1 P22 V ∧ rFolk 2 P23 V ∧ eqx [18, 19, 20, 23] [23] PR V ∧ eqL [21, 22] [] LR LV := by
  obtain ⟨a1, a2, a3, a4, m, hm, em⟩ := id h0
  unfold f_One_back f_Ref_back
  rw [a4, em]
  have key : ∀ k t : Nat, k ≤ 1 → t = k + 1 → ∀ (Pt : PI) (Lt : PL) (Ft : PI), rRods t n Pt PR Lt LR → rFolk t Ft PR → ∃ (U9 : PI) (M9 : PL) (U11 V : PI) (LV : PL), f_Rods_copyFrom P9 L9 Pt Lt = some (U9, M9) ∧ f_Folk_copyFrom P11 Ft = some U11 ∧ f_Ref_copy (mb_uo PR 23 (nI k)) LR (nI t) (nI 0) = some (V, LV) ∧ V 0 23 = nI k ∧ rOwn (mb_uo P0 14 (nI k)) V ∧ rRods 0 n U9 V M9 LV ∧ rRods 1 n P20 V L20 LV ∧ rRods 2 n P21 V L21 LV ∧ rFolk 0 U11 V ∧ rFolk 1 P22 V ∧ rFolk 2 P23 V ∧ eqx [18, 19, 20, 23] [23] PR V ∧ eqL [21, 22] [] LR LV := by
    intro k t hk ht Pt Lt Ft hr hf
    obtain ⟨V, LV, b1, b2, b3, b4, b5, b6, b7, b8, b9⟩ := copy_c (t1 := t) (t2 := 0) (by omega) (by decide) (by omega) (mb_uo PR 23 (nI k)) LR
    obtain ⟨U, LU, c1, c2, c3, c4, c5⟩ := rcopy P9 Pt L9 Lt
    obtain ⟨F, d1, d2⟩ := fcopy P11 Ft
    have k1 := b9 1 (by decide)
    have k2 := b9 2 (by decide)
    have v23 : V 0 23 = nI k := (b2.2 23 (by decide)).trans (by rw [uo_ap, if_pos ⟨rfl, rfl⟩])
    refine ⟨U, LU, F, V, LV, c1, d1, b1, v23, ?_, rRods_cong (t1 := t) (t2 := 0) hr (Nat.le_refl n) c2 c3 c4 b4 b5 b6 c5 b8, rRods_cong (t1 := 1) (t2 := 1) r20 (Nat.le_refl n) rfl rfl (fun _ _ _ _ _ => rfl) k1.1 k1.2.1 k1.2.2.1 (fun _ _ => ⟨rfl, rfl⟩) k1.2.2.2.2, rRods_cong (t1 := 2) (t2 := 2) r21 (Nat.le_refl n) rfl rfl (fun _ _ _ _ _ => rfl) k2.1 k2.2.1 k2.2.2.1 (fun _ _ => ⟨rfl, rfl⟩) k2.2.2.2.2, rFolk_cong (t1 := t) (t2 := 0) hf d2 b7, rFolk_cong (t1 := 1) (t2 := 1) f22 (fun _ _ _ _ _ => rfl) k1.2.2.2.1, rFolk_cong (t1 := 2) (t2 := 2) f23 (fun _ _ _ _ _ => rfl) k2.2.2.2.1, eqx_tr (eqx_uo (eqx_rf _ _ _) (by decide) _) (eqx_mono b2 (fun _ h => h) (fun _ h => absurd h List.not_mem_nil)), b3⟩
    have v26 : V 26 = PR 26 := b2.1 26 (by decide) (by decide)
    have v24 : V 0 24 = PR 0 24 := b2.2 24 (by decide)
    refine ⟨fun j hj => ?_, ?_, ?_, ?_, ⟨k, by omega, v23⟩⟩
    · rw [uo_ap, if_neg (fun z => absurd z.1 (by decide)), v26]; exact a1 j hj
    · rw [uo_ap, if_neg (by decide), v24]; exact a2
    · rw [v24]; exact a3
    · rw [uo_ap, if_pos ⟨rfl, rfl⟩, v23]
  rcases (show m = 0 ∨ m = 1 ∨ m = 2 by omega) with rfl | rfl | rfl
  · exact ⟨-2, P0, P9, L9, P11, PR, LR, by rw [if_neg (by decide)], by rw [if_pos (by decide)], h0, r9, r20, r21, f11, f22, f23, eqx_rf _ _ _, eqL_rf _ _ _⟩
  · obtain ⟨U9, M9, U11, V, LV, g1, g2, g3, g4, g5⟩ := key 0 1 (by decide) rfl P20 L20 P22 r20 f22
    refine ⟨nI 0, mb_uo P0 14 (nI 0), U9, M9, U11, V, LV, ?_, ?_, g5⟩
    · rw [if_pos (by decide)]
      have e : (mb_uo P0 14 (nI 1 - (1 : Int32))) = mb_uo P0 14 (nI 0) := rfl
      rw [lets, e, uo_ap, if_pos ⟨rfl, rfl⟩, chkN (by decide) (by decide), if_pos nI_0, g1, bd2s, chkN (by decide) (by decide), if_pos nI_0, g2, bd1s]
    · rw [if_neg (by decide)]
      have e : (mb_uo PR 23 (nI 1 - (1 : Int32))) = mb_uo PR 23 (nI 0) := rfl
      have g3' : f_Ref_copy (mb_uo PR 23 (nI 0)) LR ((1 : Int32) + nI 0) 0 = some (V, LV) := g3
      rw [lets, e, uo_ap, if_pos ⟨rfl, rfl⟩, g3', bd2s, g4]
  · obtain ⟨U9, M9, U11, V, LV, g1, g2, g3, g4, g5⟩ := key 1 2 (by decide) rfl P21 L21 P23 r21 f23
    refine ⟨nI 1, mb_uo P0 14 (nI 1), U9, M9, U11, V, LV, ?_, ?_, g5⟩
    · rw [if_pos (by decide)]
      have e : (mb_uo P0 14 (nI 2 - (1 : Int32))) = mb_uo P0 14 (nI 1) := rfl
      rw [lets, e, uo_ap, if_pos ⟨rfl, rfl⟩, chkN (by decide) (by decide), if_neg (by decide), g1, bd2s, chkN (by decide) (by decide), if_neg (by decide), g2, bd1s]
    · rw [if_neg (by decide)]
      have e : (mb_uo PR 23 (nI 2 - (1 : Int32))) = mb_uo PR 23 (nI 1) := rfl
      have g3' : f_Ref_copy (mb_uo PR 23 (nI 1)) LR ((1 : Int32) + nI 1) 0 = some (V, LV) := g3
      rw [lets, e, uo_ap, if_pos ⟨rfl, rfl⟩, g3', bd2s, g4]
