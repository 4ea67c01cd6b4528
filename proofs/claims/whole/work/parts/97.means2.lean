set_option maxHeartbeats 1000000 in
theorem st_means {P7 PR : PI} (h : rDecrees P7 PR) (x1 x2 x3 x4 : Int32) : ∃ r : Int32, f_One_means P7 x1 x2 x3 x4 = some r ∧ f_Ref_means PR x1 x2 x3 x4 = some r := by
  obtain ⟨c, h⟩ := h
  have hc := h.1
  unfold f_One_means f_Ref_means
  rw [wi_c, wi_c, dist_c, day_c, in_c, in_c, in_c, in_c]
  simp only [bd1s, ifz]
  simp only [tt, Int32.reduceToInt, Int64.reduceToInt]
  by_cases o1 : 0 ≤ x1.toInt ∧ x1.toInt ≤ 9
  · rw [if_pos o1, if_pos o1]
    by_cases o2 : 0 ≤ x2.toInt ∧ x2.toInt ≤ 5
    · rw [if_pos o2, if_pos o2]
      by_cases o3 : 0 ≤ x3.toInt ∧ x3.toInt ≤ 9999
      · rw [if_pos o3, if_pos o3]
        by_cases o4 : 0 ≤ x4.toInt ∧ x4.toInt ≤ 1
        · rw [if_pos o4, if_pos o4, mn_c hc h.2.1, mnR_c h, bd1s, bd1s, letsN]
          by_cases c0 : x4 = 0
          · rw [if_pos c0, if_pos c0]
            exact ⟨_, rfl, rfl⟩
          · rw [if_neg c0, if_neg c0, letsN, letsN, letsN, jnsN]
            unfold f_Decrees_surely f_Decrees_latestOf
            rw [letsN, letsN]
            obtain ⟨x, l, s, g1, g2, g3⟩ := lt_l h x1 x2 x3 (fun (x6_10 : Int32) => mb_jn (fun (y_13 : Int32) => mb_let y_13 (fun (x8_16 : Int32) => mb_let (0 : Int32) (fun (x9_17 : Int32) => mb_jn (fun (x8_18 : Int32) => (if x8_18 = 0 then some (-4 : Int32) else some x6_10)) (fun K272_19 => f_Ref_means_219 PR x2 x3 (mng P7 x1 x2 x3 c) x6_10 K272_19 mb_fu x8_16 x9_17)))) (fun J214_14 => (if x6_10 = (-4 : Int32) then J214_14 (0 : Int32) else J214_14 (1 : Int32)))) c 0 mb_fu mb_fu (-4) (-4) (-1) (by omega) (fu_lt (by omega)) (fu_lt (by omega)) (Or.inl ⟨rfl, rfl, rfl⟩)
            rw [nI_0] at g1 g2
            rw [g1, g2, bd1s, letsN, jnsN]
            rcases g3 with ⟨rfl, rfl, rfl⟩ | ⟨i, hi, rfl, rfl, rfl⟩
            · have s0 := su0 (PR := PR) x2 x3 (mng P7 x1 x2 x3 c) (-4) (fun (x8_18 : Int32) => (if x8_18 = 0 then some (-4 : Int32) else some (-4 : Int32))) 16 0 mb_fu (by omega) (fu_lt (by omega))
              rw [nI_0] at s0
              refine ⟨-4, by rw [if_neg (by decide), bd1s], ?_⟩
              rw [if_pos rfl]
              simp only [letsN, jnsN]
              rw [s0]
              rfl
            · obtain ⟨-, -, -, -, -, eo⟩ := h.2.2.2 i hi
              obtain ⟨t, ht, et⟩ := ofI (n := 16) eo.2.1.1 (by have := eo.2.1.2.1; omega) (by decide)
              rw [if_pos (nI_pos' (by omega)), chkN (by omega) (by decide), nI_clamp (by omega), et, letsN, mn_c hc h.2.1, bd1s, letsN, letsN, if_neg (nI_n4 (by omega))]
              simp only [letsN, jnsN]
              obtain ⟨v, s1, s2⟩ := su_l h ht x2 x3 (mng P7 x1 x2 x3 c) 16 0 mb_fu mb_fu (by omega) (fu_lt (by omega)) (fu_lt (by omega))
              rw [nI_0] at s1 s2
              rw [s1, s2, bd1s]
              exact ⟨v, rfl, rfl⟩
        · rw [if_neg o4, if_neg o4]
          exact ⟨_, rfl, rfl⟩
      · rw [if_neg o3, if_neg o3]
        exact ⟨_, rfl, rfl⟩
    · rw [if_neg o2, if_neg o2]
      exact ⟨_, rfl, rfl⟩
  · rw [if_neg o1, if_neg o1]
    exact ⟨_, rfl, rfl⟩
