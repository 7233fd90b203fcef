/-! FINESCRIP follows an order. -/
section FOLLOW
variable {M : m_Mem} {n N B : Nat}
theorem a_fMelt (hI : f_I M n N B) : m_cl 81 [.ref (m_lc 1 0 0)] M = if 0 < M 14 0 12 0 ∧ B < 12 then some (.inl (some (.int 1)), f_melt M 0 B) else some (.inl (some (.int 0)), M) := by
  have hB := hI.2.2.1
  rw [e5_followMelt_en]
  have h0 : 0 ≤ nI B := nI_pos' (by omega)
  by_cases h : 0 < M 14 0 12 0 ∧ B < 12
  · have h3 : nI B < 12 := (nI_lt h.2 (by decide) : nI B < nI 12)
    rw [if_pos h]
    simp only [e5_followMelt_0, e5_followMelt_1, e5_followMelt_4, e5_followMelt_7, e5_followMelt_10, e5_followMelt_11, e5_followMelt_12, e5_followMelt_13, e5_followMelt_16, e5_followMelt_19, e5_followMelt_20, m_k7, s_canMelt 0 (by decide), hB.2, h0, h.1, h3, s_melt 0 (by decide) B h.2 M hB.2, m_nok11, m_cE_i, m_cE_v, m_cE_ite, m_kill, (by decide : ¬ (1 : Int32) = 0), and_self, ne_eq, if_true, if_false, not_false_eq_true]
  · have h2 : ¬ (0 < M 14 0 12 0 ∧ 0 ≤ nI B ∧ nI B < 12) := fun q => h ⟨q.1, Decidable.byContradiction fun z => absurd q.2.2 (nI_nlt (by omega) (by omega) : ¬ nI B < nI 12)⟩
    rw [if_neg h]
    simp only [e5_followMelt_0, e5_followMelt_1, e5_followMelt_4, e5_followMelt_7, e5_followMelt_10, e5_followMelt_11, e5_followMelt_12, e5_followMelt_13, e5_followMelt_16, e5_followMelt_19, e5_followMelt_20, m_k7, s_canMelt 0 (by decide), hB.2, h2, m_nok10, m_cE_i, m_cE_v, m_cE_ite, m_kill, ne_eq, if_true, if_false, not_false_eq_true]
theorem a_fPass (hE : f_ok M) : m_cl 82 [.ref (m_lc 1 0 0)] M = if M 7 0 0 7 + 1 ≤ 9999 then some (.inl (some (.int 1)), f_dy M) else some (.inl (some (.int 0)), M) := by
  have he : m_cl 22 [.ref (m_lc 7 0 0)] M = some (.inl (some (.int (f_ln M 0 10))), f_dy M) := s_end 0 (by decide) M hE.1 hE.2
  rw [e5_followPass_en]
  by_cases h : M 7 0 0 7 + 1 ≤ 9999
  · simp only [e5_followPass_0, e5_followPass_1, e5_followPass_4, e5_followPass_5, e5_followPass_8, e5_followPass_11, e5_followPass_12, e5_followPass_13, e5_followPass_14, e5_followPass_17, e5_followPass_20, e5_followPass_21, e5_followPass_22, m_k7, s_canWait 0 (by decide), h, he, m_nok11, m_cE_i, m_cE_v, m_cE_ite, m_kill, (by decide : ¬ (1 : Int32) = 0), ne_eq, if_true, if_false, not_false_eq_true]
  · simp only [e5_followPass_0, e5_followPass_1, e5_followPass_4, e5_followPass_5, e5_followPass_8, e5_followPass_11, e5_followPass_12, e5_followPass_13, e5_followPass_14, e5_followPass_17, e5_followPass_20, e5_followPass_21, e5_followPass_22, m_k7, s_canWait 0 (by decide), h, m_nok10, m_cE_i, m_cE_v, m_cE_ite, m_kill, ne_eq, if_true, if_false, not_false_eq_true]
theorem a_fStake (hI : f_I M n N B) (d c : Int32) : m_cl 79 [.ref (m_lc 1 0 0), .int d, .int c] M =
    if f_has d (M 7 0 0 5) 8 = 0 then some (.inl (some (.int 0)), M) else if f_bw c 0 9 = 0 then some (.inl (some (.int 0)), M)
    else if M 12 0 d.toNatClampNeg 2 = -1 ∧ M 13 0 c.toNatClampNeg 1 = -1 then some (.inl (some (.int 1)), f_give (m_set M 12 0 d.toNatClampNeg 2 c) 0 c.toNatClampNeg d)
    else some (.inl (some (.int 0)), M) := by
  have hN := hI.2.1
  rw [e5_followStake_en]
  rcases f_has_c d (M 7 0 0 5) 8 with hh | hh
  · have hh2 : f_has d (nI N) (nI 8) = 1 := by rw [← hN.2]; exact hh
    obtain ⟨d, hd, rfl⟩ := f_has1 hN.1 (by decide) hh2
    rcases f_bw_c c 0 9 with hb | hb
    · obtain ⟨c, hc, rfl⟩ := f_bw_0n (U := 9) hb (by decide)
      have cd : (nI d).toNatClampNeg = d := nI_clamp (by omega)
      have cc : (nI c).toNatClampNeg = c := nI_clamp (by omega)
      by_cases ht : M 12 0 d 2 = -1 ∧ M 13 0 c 1 = -1
      · simp only [e5_followStake_0, e5_followStake_1, e5_followStake_4, e5_followStake_5, e5_followStake_8, e5_followStake_11, e5_followStake_12, e5_followStake_15, e5_followStake_18, e5_followStake_19, e5_followStake_22, e5_followStake_23, e5_followStake_24, e5_followStake_27, e5_followStake_30, e5_followStake_31, e5_followStake_32, e5_followStake_33, e5_followStake_36, e5_followStake_37, e5_followStake_38, e5_followStake_41, e5_followStake_42, m_k7, s_hasD 0 (by decide), hh, hb, s_isClaim, s_canTake 0 (by decide) d c (by omega) (by omega), ht.1, ht.2, and_self, cd, cc, s_take 0 (by decide) d c (by omega) (by omega), m_nok11, m_cE_i, m_cE_v, m_cE_ite, m_kill, (by decide : ¬ (1 : Int32) = 0), ne_eq, if_true, if_false, not_false_eq_true]
      · simp only [e5_followStake_0, e5_followStake_1, e5_followStake_4, e5_followStake_5, e5_followStake_8, e5_followStake_11, e5_followStake_12, e5_followStake_15, e5_followStake_18, e5_followStake_19, e5_followStake_22, e5_followStake_23, e5_followStake_24, e5_followStake_27, e5_followStake_30, e5_followStake_31, e5_followStake_32, e5_followStake_33, e5_followStake_36, e5_followStake_37, e5_followStake_38, e5_followStake_41, e5_followStake_42, m_k7, s_hasD 0 (by decide), hh, hb, s_isClaim, s_canTake 0 (by decide) d c (by omega) (by omega), ht, cd, cc, m_nok10, m_cE_i, m_cE_v, m_cE_ite, m_kill, (by decide : ¬ (1 : Int32) = 0), ne_eq, if_true, if_false, not_false_eq_true]
    · simp only [e5_followStake_0, e5_followStake_1, e5_followStake_4, e5_followStake_5, e5_followStake_8, e5_followStake_11, e5_followStake_12, e5_followStake_15, e5_followStake_18, e5_followStake_19, e5_followStake_22, e5_followStake_23, e5_followStake_24, e5_followStake_27, e5_followStake_30, e5_followStake_31, e5_followStake_32, e5_followStake_33, e5_followStake_36, e5_followStake_37, e5_followStake_38, e5_followStake_41, e5_followStake_42, m_k7, s_hasD 0 (by decide), hh, hb, s_isClaim, m_nok10, m_cE_i, m_cE_v, m_cE_ite, m_kill, (by decide : ¬ (1 : Int32) = 0), ne_eq, if_true, if_false, not_false_eq_true]
  · simp only [e5_followStake_0, e5_followStake_1, e5_followStake_4, e5_followStake_5, e5_followStake_8, e5_followStake_11, e5_followStake_12, e5_followStake_15, e5_followStake_18, e5_followStake_19, e5_followStake_22, e5_followStake_23, e5_followStake_24, e5_followStake_27, e5_followStake_30, e5_followStake_31, e5_followStake_32, e5_followStake_33, e5_followStake_36, e5_followStake_37, e5_followStake_38, e5_followStake_41, e5_followStake_42, m_k7, s_hasD 0 (by decide), hh, m_nok10, m_cE_i, m_cE_v, m_cE_ite, m_kill, ne_eq, if_true, if_false, not_false_eq_true]
theorem a_fBuy (hI : f_I M n N B) (d g : Int32) : m_cl 80 [.ref (m_lc 1 0 0), .int d, .int g] M =
    if f_has d (M 7 0 0 5) 8 = 0 then some (.inl (some (.int 0)), M) else if f_bw g 1 9999 = 0 then some (.inl (some (.int 0)), M)
    else if f_da M 0 d.toNatClampNeg g ≤ 5000 then some (.inl (some (.int 1)), f_sp M 0 d.toNatClampNeg g) else some (.inl (some (.int 0)), M) := by
  have hN := hI.2.1
  rw [e5_followBuy_en]
  rcases f_has_c d (M 7 0 0 5) 8 with hh | hh
  · have hh2 : f_has d (nI N) (nI 8) = 1 := by rw [← hN.2]; exact hh
    obtain ⟨d, hd, rfl⟩ := f_has1 hN.1 (by decide) hh2
    have cd : (nI d).toNatClampNeg = d := nI_clamp (by omega)
    have hd8 : d < 8 := by omega
    rcases f_bw_c g 1 9999 with hg | hg
    · by_cases hl : f_da M 0 d g ≤ 5000
      · simp only [e5_followBuy_0, e5_followBuy_1, e5_followBuy_4, e5_followBuy_5, e5_followBuy_8, e5_followBuy_11, e5_followBuy_12, e5_followBuy_15, e5_followBuy_18, e5_followBuy_19, e5_followBuy_22, e5_followBuy_23, e5_followBuy_24, e5_followBuy_27, e5_followBuy_30, e5_followBuy_31, e5_followBuy_32, e5_followBuy_33, e5_followBuy_36, e5_followBuy_37, e5_followBuy_38, e5_followBuy_41, e5_followBuy_42, m_k7, s_hasD 0 (by decide), hh, hg, cd, hl, s_isAmount, s_canSell 0 (by decide) d hd8, s_sell 0 (by decide) d hd8, m_nok11, m_cE_i, m_cE_v, m_cE_ite, m_kill, (by decide : ¬ (1 : Int32) = 0), ne_eq, if_true, if_false, not_false_eq_true]
      · simp only [e5_followBuy_0, e5_followBuy_1, e5_followBuy_4, e5_followBuy_5, e5_followBuy_8, e5_followBuy_11, e5_followBuy_12, e5_followBuy_15, e5_followBuy_18, e5_followBuy_19, e5_followBuy_22, e5_followBuy_23, e5_followBuy_24, e5_followBuy_27, e5_followBuy_30, e5_followBuy_31, e5_followBuy_32, e5_followBuy_33, e5_followBuy_36, e5_followBuy_37, e5_followBuy_38, e5_followBuy_41, e5_followBuy_42, m_k7, s_hasD 0 (by decide), hh, hg, cd, hl, s_isAmount, s_canSell 0 (by decide) d hd8, m_nok10, m_cE_i, m_cE_v, m_cE_ite, m_kill, (by decide : ¬ (1 : Int32) = 0), ne_eq, if_true, if_false, not_false_eq_true]
    · simp only [e5_followBuy_0, e5_followBuy_1, e5_followBuy_4, e5_followBuy_5, e5_followBuy_8, e5_followBuy_11, e5_followBuy_12, e5_followBuy_15, e5_followBuy_18, e5_followBuy_19, e5_followBuy_22, e5_followBuy_23, e5_followBuy_24, e5_followBuy_27, e5_followBuy_30, e5_followBuy_31, e5_followBuy_32, e5_followBuy_33, e5_followBuy_36, e5_followBuy_37, e5_followBuy_38, e5_followBuy_41, e5_followBuy_42, m_k7, s_hasD 0 (by decide), hh, hg, s_isAmount, m_nok10, m_cE_i, m_cE_v, m_cE_ite, m_kill, (by decide : ¬ (1 : Int32) = 0), ne_eq, if_true, if_false, not_false_eq_true]
  · simp only [e5_followBuy_0, e5_followBuy_1, e5_followBuy_4, e5_followBuy_5, e5_followBuy_8, e5_followBuy_11, e5_followBuy_12, e5_followBuy_15, e5_followBuy_18, e5_followBuy_19, e5_followBuy_22, e5_followBuy_23, e5_followBuy_24, e5_followBuy_27, e5_followBuy_30, e5_followBuy_31, e5_followBuy_32, e5_followBuy_33, e5_followBuy_36, e5_followBuy_37, e5_followBuy_38, e5_followBuy_41, e5_followBuy_42, m_k7, s_hasD 0 (by decide), hh, m_nok10, m_cE_i, m_cE_v, m_cE_ite, m_kill, ne_eq, if_true, if_false, not_false_eq_true]
theorem a_fWeigh (hI : f_I M n N B) (hD : f_D M N) (d g : Int32) : m_cl 78 [.ref (m_lc 1 0 0), .int d, .int g] M =
    if f_has d (M 7 0 0 5) 8 = 0 then some (.inl (some (.int 0)), M) else if f_bw g 1 9999 = 0 then some (.inl (some (.int 0)), M)
    else if ¬ M 12 0 d.toNatClampNeg 2 = -1 ∧ M 14 0 12 0 + g ≤ 99999 then some (.inl (some (.int 1)), f_wi M 0 d.toNatClampNeg (M 12 0 d.toNatClampNeg 2).toNatClampNeg g)
    else some (.inl (some (.int 0)), M) := by
  have hN := hI.2.1
  rw [e5_followWeigh_en]
  rcases f_has_c d (M 7 0 0 5) 8 with hh | hh
  · have hh2 : f_has d (nI N) (nI 8) = 1 := by rw [← hN.2]; exact hh
    obtain ⟨d, hd, rfl⟩ := f_has1 hN.1 (by decide) hh2
    have cd : (nI d).toNatClampNeg = d := nI_clamp (by omega)
    have hd8 : d < 8 := by omega
    rcases f_bw_c g 1 9999 with hg | hg
    · rcases hD d hd with ho | ⟨c, hc, ho, hw⟩
      · have hb : f_bw (-1) 0 9 = 0 := by decide
        simp only [e5_followWeigh_0, e5_followWeigh_1, e5_followWeigh_4, e5_followWeigh_5, e5_followWeigh_8, e5_followWeigh_11, e5_followWeigh_12, e5_followWeigh_15, e5_followWeigh_18, e5_followWeigh_19, e5_followWeigh_22, e5_followWeigh_23, e5_followWeigh_24, e5_followWeigh_27, e5_followWeigh_30, e5_followWeigh_31, e5_followWeigh_32, e5_followWeigh_33, e5_followWeigh_36, e5_followWeigh_37, e5_followWeigh_38, e5_followWeigh_41, e5_followWeigh_42, e5_followWeigh_43, m_k7, s_hasD 0 (by decide), hh, hg, cd, ho, hb, s_isAmount, s_canWeigh 0 (by decide) d hd8, m_nok10, m_cE_i, m_cE_v, m_cE_ite, m_kill, (by decide : ¬ (1 : Int32) = 0), (by decide : ¬ (0 : Int32) = 1), not_true_eq_false, false_and, ne_eq, if_true, if_false, not_false_eq_true]
      · have hb : f_bw (nI c) 0 9 = 1 := f_bw1 ⟨nI_pos' (by omega), (nI_le (by omega) (by decide) : nI c ≤ nI 9)⟩
        have hne : ¬ nI c = -1 := fun q => by
          have := nI_pos' (n := c) (by omega)
          rw [q] at this
          exact absurd this (by decide)
        have cc : (nI c).toNatClampNeg = c := nI_clamp (by omega)
        have hr := s_wi 0 (by decide) d c hd8 hc g M ho
        by_cases hl : M 14 0 12 0 + g ≤ 99999
        · simp only [e5_followWeigh_0, e5_followWeigh_1, e5_followWeigh_4, e5_followWeigh_5, e5_followWeigh_8, e5_followWeigh_11, e5_followWeigh_12, e5_followWeigh_15, e5_followWeigh_18, e5_followWeigh_19, e5_followWeigh_22, e5_followWeigh_23, e5_followWeigh_24, e5_followWeigh_27, e5_followWeigh_30, e5_followWeigh_31, e5_followWeigh_32, e5_followWeigh_33, e5_followWeigh_36, e5_followWeigh_37, e5_followWeigh_38, e5_followWeigh_41, e5_followWeigh_42, e5_followWeigh_43, m_k7, s_hasD 0 (by decide), hh, hg, cd, cc, ho, hb, hne, hl, s_isAmount, s_canWeigh 0 (by decide) d hd8, hr, m_nok11, m_cE_i, m_cE_v, m_cE_ite, m_kill, (by decide : ¬ (1 : Int32) = 0), and_self, ne_eq, if_true, if_false, not_false_eq_true]
        · simp only [e5_followWeigh_0, e5_followWeigh_1, e5_followWeigh_4, e5_followWeigh_5, e5_followWeigh_8, e5_followWeigh_11, e5_followWeigh_12, e5_followWeigh_15, e5_followWeigh_18, e5_followWeigh_19, e5_followWeigh_22, e5_followWeigh_23, e5_followWeigh_24, e5_followWeigh_27, e5_followWeigh_30, e5_followWeigh_31, e5_followWeigh_32, e5_followWeigh_33, e5_followWeigh_36, e5_followWeigh_37, e5_followWeigh_38, e5_followWeigh_41, e5_followWeigh_42, e5_followWeigh_43, m_k7, s_hasD 0 (by decide), hh, hg, cd, cc, ho, hb, hne, hl, s_isAmount, s_canWeigh 0 (by decide) d hd8, m_nok10, m_cE_i, m_cE_v, m_cE_ite, m_kill, (by decide : ¬ (1 : Int32) = 0), and_false, ne_eq, if_true, if_false, not_false_eq_true]
    · simp only [e5_followWeigh_0, e5_followWeigh_1, e5_followWeigh_4, e5_followWeigh_5, e5_followWeigh_8, e5_followWeigh_11, e5_followWeigh_12, e5_followWeigh_15, e5_followWeigh_18, e5_followWeigh_19, e5_followWeigh_22, e5_followWeigh_23, e5_followWeigh_24, e5_followWeigh_27, e5_followWeigh_30, e5_followWeigh_31, e5_followWeigh_32, e5_followWeigh_33, e5_followWeigh_36, e5_followWeigh_37, e5_followWeigh_38, e5_followWeigh_41, e5_followWeigh_42, e5_followWeigh_43, m_k7, s_hasD 0 (by decide), hh, hg, s_isAmount, m_nok10, m_cE_i, m_cE_v, m_cE_ite, m_kill, (by decide : ¬ (1 : Int32) = 0), ne_eq, if_true, if_false, not_false_eq_true]
  · simp only [e5_followWeigh_0, e5_followWeigh_1, e5_followWeigh_4, e5_followWeigh_5, e5_followWeigh_8, e5_followWeigh_11, e5_followWeigh_12, e5_followWeigh_15, e5_followWeigh_18, e5_followWeigh_19, e5_followWeigh_22, e5_followWeigh_23, e5_followWeigh_24, e5_followWeigh_27, e5_followWeigh_30, e5_followWeigh_31, e5_followWeigh_32, e5_followWeigh_33, e5_followWeigh_36, e5_followWeigh_37, e5_followWeigh_38, e5_followWeigh_41, e5_followWeigh_42, e5_followWeigh_43, m_k7, s_hasD 0 (by decide), hh, m_nok10, m_cE_i, m_cE_v, m_cE_ite, m_kill, ne_eq, if_true, if_false, not_false_eq_true]
end FOLLOW
