/-! THE MODEL: what its operations do. -/
theorem f_is_c (v n : Int32) : f_is v n = 1 ∨ f_is v n = 0 := by
  unfold f_is
  split
  · exact Or.inl rfl
  · exact Or.inr rfl
theorem f_is1 {v : Int32} {N : Nat} (hN : N < 2 ^ 31) (h : f_is v (nI N) = 1) : ∃ d, d < N ∧ v = nI d := by
  unfold f_is at h
  split at h
  · rename_i q
    exact nI_below q.1 q.2 hN
  · exact absurd h (by decide)
section MODEL
variable {M : m_Mem} {N : Nat}
theorem g_mayStake (hN : N ≤ 8) (hc1 : M 16 0 0 1 = nI N) (d c : Int32) : m_cl 121 [.ref (m_lc 15 0 0), .int d, .int c] M =
    some (.inl (some (.int (if f_is d (M 16 0 0 1) = 0 then 1 else if f_bw c 0 9 = 0 then 2 else if 0 ≤ M 16 0 0 (13 + 8 * d.toNatClampNeg + 2) ∨ 0 ≤ M 16 0 0 (77 + 6 * c.toNatClampNeg + 1) then 3 else 0))), M) := by
  rw [e6_mayStake_en]
  rcases f_is_c d (M 16 0 0 1) with hh | hh
  · obtain ⟨d, hd, rfl⟩ := f_is1 (N := N) (by omega) (by rw [← hc1]; exact hh)
    have cd : (nI d).toNatClampNeg = d := nI_clamp (by omega)
    rcases f_bw_c c 0 9 with hb | hb
    · obtain ⟨c, hc, rfl⟩ := f_bw_0n (U := 9) hb (by decide)
      have cc : (nI c).toNatClampNeg = c := nI_clamp (by omega)
      by_cases h1 : 0 ≤ M 16 0 0 (13 + 8 * d + 2)
      · have h2 : ¬ M 16 0 0 (13 + 8 * d + 2) < 0 := Int32.not_lt.mpr h1
        simp only [e6_mayStake_0, e6_mayStake_1, e6_mayStake_2, e6_mayStake_5, e6_mayStake_8, e6_mayStake_9, e6_mayStake_10, e6_mayStake_11, e6_mayStake_14, e6_mayStake_17, e6_mayStake_18, e6_mayStake_19, e6_mayStake_20, e6_mayStake_21, e6_mayStake_22, e6_mayStake_25, e6_mayStake_28, e6_mayStake_29, e6_mayStake_30, e6_mayStake_31, e6_mayStake_34, e6_mayStake_37, e6_mayStake_38, e6_mayStake_41, e6_mayStake_42, g_isD, g_isC, hh, hb, cd, cc, g_of2 d (by omega), h1, h2, m_cE_i, m_cE_v, m_cE_ite, m_kill, (by decide : ¬ (1 : Int32) = 0), true_or, if_true, if_false, not_false_eq_true]
      · have h2 : M 16 0 0 (13 + 8 * d + 2) < 0 := Int32.not_le.mp h1
        by_cases h3 : 0 ≤ M 16 0 0 (77 + 6 * c + 1)
        · have h4 : ¬ M 16 0 0 (77 + 6 * c + 1) < 0 := Int32.not_lt.mpr h3
          simp only [e6_mayStake_0, e6_mayStake_1, e6_mayStake_2, e6_mayStake_5, e6_mayStake_8, e6_mayStake_9, e6_mayStake_10, e6_mayStake_11, e6_mayStake_14, e6_mayStake_17, e6_mayStake_18, e6_mayStake_19, e6_mayStake_20, e6_mayStake_21, e6_mayStake_22, e6_mayStake_25, e6_mayStake_28, e6_mayStake_29, e6_mayStake_30, e6_mayStake_31, e6_mayStake_34, e6_mayStake_37, e6_mayStake_38, e6_mayStake_41, e6_mayStake_42, g_isD, g_isC, hh, hb, cd, cc, g_of2 d (by omega), g_ofC1 c (by omega), h1, h2, h3, h4, m_cE_i, m_cE_v, m_cE_ite, m_kill, (by decide : ¬ (1 : Int32) = 0), or_true, if_true, if_false, not_false_eq_true]
        · have h4 : M 16 0 0 (77 + 6 * c + 1) < 0 := Int32.not_le.mp h3
          simp only [e6_mayStake_0, e6_mayStake_1, e6_mayStake_2, e6_mayStake_5, e6_mayStake_8, e6_mayStake_9, e6_mayStake_10, e6_mayStake_11, e6_mayStake_14, e6_mayStake_17, e6_mayStake_18, e6_mayStake_19, e6_mayStake_20, e6_mayStake_21, e6_mayStake_22, e6_mayStake_25, e6_mayStake_28, e6_mayStake_29, e6_mayStake_30, e6_mayStake_31, e6_mayStake_34, e6_mayStake_37, e6_mayStake_38, e6_mayStake_41, e6_mayStake_42, g_isD, g_isC, hh, hb, cd, cc, g_of2 d (by omega), g_ofC1 c (by omega), h1, h2, h3, h4, m_cE_i, m_cE_v, m_cE_ite, m_kill, (by decide : ¬ (1 : Int32) = 0), or_self, if_true, if_false, not_false_eq_true]
    · simp only [e6_mayStake_0, e6_mayStake_1, e6_mayStake_2, e6_mayStake_5, e6_mayStake_8, e6_mayStake_9, e6_mayStake_10, e6_mayStake_11, e6_mayStake_14, e6_mayStake_17, e6_mayStake_18, e6_mayStake_19, e6_mayStake_20, e6_mayStake_21, e6_mayStake_22, e6_mayStake_25, e6_mayStake_28, e6_mayStake_29, e6_mayStake_30, e6_mayStake_31, e6_mayStake_34, e6_mayStake_37, e6_mayStake_38, e6_mayStake_41, e6_mayStake_42, g_isD, g_isC, hh, hb, m_cE_i, m_cE_v, m_cE_ite, m_kill, (by decide : ¬ (1 : Int32) = 0), if_true, if_false, not_false_eq_true]
  · simp only [e6_mayStake_0, e6_mayStake_1, e6_mayStake_2, e6_mayStake_5, e6_mayStake_8, e6_mayStake_9, e6_mayStake_10, e6_mayStake_11, e6_mayStake_14, e6_mayStake_17, e6_mayStake_18, e6_mayStake_19, e6_mayStake_20, e6_mayStake_21, e6_mayStake_22, e6_mayStake_25, e6_mayStake_28, e6_mayStake_29, e6_mayStake_30, e6_mayStake_31, e6_mayStake_34, e6_mayStake_37, e6_mayStake_38, e6_mayStake_41, e6_mayStake_42, g_isD, hh, m_cE_i, m_cE_v, m_cE_ite, m_kill, if_true, if_false, not_false_eq_true]
theorem g_mayWeigh (hN : N ≤ 8) (hc1 : M 16 0 0 1 = nI N) (d g : Int32) : m_cl 124 [.ref (m_lc 15 0 0), .int d, .int g] M =
    some (.inl (some (.int (if f_is d (M 16 0 0 1) = 0 then 1 else if f_bw g 1 9999 = 0 then 2 else if M 16 0 0 (13 + 8 * d.toNatClampNeg + 2) < 0 ∨ 99999 < M 16 0 0 2 + g then 3 else 0))), M) := by
  rw [e6_mayWeigh_en]
  rcases f_is_c d (M 16 0 0 1) with hh | hh
  · obtain ⟨d, hd, rfl⟩ := f_is1 (N := N) (by omega) (by rw [← hc1]; exact hh)
    have cd : (nI d).toNatClampNeg = d := nI_clamp (by omega)
    rcases f_bw_c g 1 9999 with hb | hb
    · by_cases h1 : M 16 0 0 (13 + 8 * d + 2) < 0
      · simp only [e6_mayWeigh_0, e6_mayWeigh_1, e6_mayWeigh_2, e6_mayWeigh_5, e6_mayWeigh_8, e6_mayWeigh_9, e6_mayWeigh_10, e6_mayWeigh_11, e6_mayWeigh_12, e6_mayWeigh_15, e6_mayWeigh_18, e6_mayWeigh_21, e6_mayWeigh_22, e6_mayWeigh_23, e6_mayWeigh_24, e6_mayWeigh_25, e6_mayWeigh_26, e6_mayWeigh_29, e6_mayWeigh_32, e6_mayWeigh_33, e6_mayWeigh_36, e6_mayWeigh_37, e6_mayWeigh_38, e6_mayWeigh_39, e6_mayWeigh_40, e6_mayWeigh_42, e6_mayWeigh_45, e6_mayWeigh_46, e6_mayWeigh_49, e6_mayWeigh_50, g_isD, g_in, hh, hb, cd, g_of2 d (by omega), h1, m_cE_i, m_cE_v, m_cE_ite, m_kill, (by decide : ¬ (1 : Int32) = 0), true_or, if_true, if_false, not_false_eq_true]
      · by_cases h3 : 99999 < M 16 0 0 2 + g
        · have h4 : ¬ M 16 0 0 2 + g ≤ 99999 := Int32.not_le.mpr h3
          simp only [e6_mayWeigh_0, e6_mayWeigh_1, e6_mayWeigh_2, e6_mayWeigh_5, e6_mayWeigh_8, e6_mayWeigh_9, e6_mayWeigh_10, e6_mayWeigh_11, e6_mayWeigh_12, e6_mayWeigh_15, e6_mayWeigh_18, e6_mayWeigh_21, e6_mayWeigh_22, e6_mayWeigh_23, e6_mayWeigh_24, e6_mayWeigh_25, e6_mayWeigh_26, e6_mayWeigh_29, e6_mayWeigh_32, e6_mayWeigh_33, e6_mayWeigh_36, e6_mayWeigh_37, e6_mayWeigh_38, e6_mayWeigh_39, e6_mayWeigh_40, e6_mayWeigh_42, e6_mayWeigh_45, e6_mayWeigh_46, e6_mayWeigh_49, e6_mayWeigh_50, g_isD, g_in, hh, hb, cd, g_of2 d (by omega), h1, h3, h4, m_cE_i, m_cE_v, m_cE_ite, m_kill, (by decide : ¬ (1 : Int32) = 0), or_true, if_true, if_false, not_false_eq_true]
        · have h4 : M 16 0 0 2 + g ≤ 99999 := Int32.not_lt.mp h3
          simp only [e6_mayWeigh_0, e6_mayWeigh_1, e6_mayWeigh_2, e6_mayWeigh_5, e6_mayWeigh_8, e6_mayWeigh_9, e6_mayWeigh_10, e6_mayWeigh_11, e6_mayWeigh_12, e6_mayWeigh_15, e6_mayWeigh_18, e6_mayWeigh_21, e6_mayWeigh_22, e6_mayWeigh_23, e6_mayWeigh_24, e6_mayWeigh_25, e6_mayWeigh_26, e6_mayWeigh_29, e6_mayWeigh_32, e6_mayWeigh_33, e6_mayWeigh_36, e6_mayWeigh_37, e6_mayWeigh_38, e6_mayWeigh_39, e6_mayWeigh_40, e6_mayWeigh_42, e6_mayWeigh_45, e6_mayWeigh_46, e6_mayWeigh_49, e6_mayWeigh_50, g_isD, g_in, hh, hb, cd, g_of2 d (by omega), h1, h3, h4, m_cE_i, m_cE_v, m_cE_ite, m_kill, (by decide : ¬ (1 : Int32) = 0), or_self, if_true, if_false, not_false_eq_true]
    · simp only [e6_mayWeigh_0, e6_mayWeigh_1, e6_mayWeigh_2, e6_mayWeigh_5, e6_mayWeigh_8, e6_mayWeigh_9, e6_mayWeigh_10, e6_mayWeigh_11, e6_mayWeigh_12, e6_mayWeigh_15, e6_mayWeigh_18, e6_mayWeigh_21, e6_mayWeigh_22, e6_mayWeigh_23, e6_mayWeigh_24, e6_mayWeigh_25, e6_mayWeigh_26, e6_mayWeigh_29, e6_mayWeigh_32, e6_mayWeigh_33, e6_mayWeigh_36, e6_mayWeigh_37, e6_mayWeigh_38, e6_mayWeigh_39, e6_mayWeigh_40, e6_mayWeigh_42, e6_mayWeigh_45, e6_mayWeigh_46, e6_mayWeigh_49, e6_mayWeigh_50, g_isD, g_in, hh, hb, m_cE_i, m_cE_v, m_cE_ite, m_kill, (by decide : ¬ (1 : Int32) = 0), if_true, if_false, not_false_eq_true]
  · simp only [e6_mayWeigh_0, e6_mayWeigh_1, e6_mayWeigh_2, e6_mayWeigh_5, e6_mayWeigh_8, e6_mayWeigh_9, e6_mayWeigh_10, e6_mayWeigh_11, e6_mayWeigh_12, e6_mayWeigh_15, e6_mayWeigh_18, e6_mayWeigh_21, e6_mayWeigh_22, e6_mayWeigh_23, e6_mayWeigh_24, e6_mayWeigh_25, e6_mayWeigh_26, e6_mayWeigh_29, e6_mayWeigh_32, e6_mayWeigh_33, e6_mayWeigh_36, e6_mayWeigh_37, e6_mayWeigh_38, e6_mayWeigh_39, e6_mayWeigh_40, e6_mayWeigh_42, e6_mayWeigh_45, e6_mayWeigh_46, e6_mayWeigh_49, e6_mayWeigh_50, g_isD, hh, m_cE_i, m_cE_v, m_cE_ite, m_kill, if_true, if_false, not_false_eq_true]
def k_lk (M : m_Mem) (d : Nat) (c : Int32) : Int32 := if M 16 0 0 (13 + 8 * d + 0) < c then c - M 16 0 0 (13 + 8 * d + 0) else 0
theorem g_lacks (d : Nat) (hd : d < 8) (c : Int32) : m_cl 126 [.ref (m_lc 15 0 0), .int (nI d), .int c] M = some (.inl (some (.int (k_lk M d c))), M) := by
  rw [e6_lacks_en]
  unfold k_lk
  by_cases h1 : M 16 0 0 (13 + 8 * d + 0) < c
  · have h2 : ¬ c ≤ M 16 0 0 (13 + 8 * d + 0) := Int32.not_le.mpr h1
    simp only [e6_lacks_0, e6_lacks_1, e6_lacks_2, e6_lacks_3, e6_lacks_4, e6_lacks_7, e6_lacks_10, e6_lacks_11, e6_lacks_12, e6_lacks_13, e6_lacks_14, e6_lacks_17, e6_lacks_18, e6_lacks_21, e6_lacks_22, g_of0 d hd, h1, h2, m_cE_i, m_cE_v, m_cE_ite, m_kill, if_true, if_false, not_false_eq_true]
  · have h2 : c ≤ M 16 0 0 (13 + 8 * d + 0) := Int32.not_lt.mp h1
    simp only [e6_lacks_0, e6_lacks_1, e6_lacks_2, e6_lacks_3, e6_lacks_4, e6_lacks_7, e6_lacks_10, e6_lacks_11, e6_lacks_12, e6_lacks_13, e6_lacks_14, e6_lacks_17, e6_lacks_18, e6_lacks_21, e6_lacks_22, g_of0 d hd, h1, h2, m_cE_i, m_cE_v, m_cE_ite, m_kill, if_true, if_false, not_false_eq_true]
theorem g_mayBuy (hN : N ≤ 8) (hc1 : M 16 0 0 1 = nI N) (d g : Int32) : m_cl 127 [.ref (m_lc 15 0 0), .int d, .int g] M =
    some (.inl (some (.int (if f_is d (M 16 0 0 1) = 0 then 1 else if f_bw g 1 9999 = 0 then 2 else if 5000 < M 16 0 0 (13 + 8 * d.toNatClampNeg + 1) + k_lk M d.toNatClampNeg g then 3 else 0))), M) := by
  rw [e6_mayBuy_en]
  rcases f_is_c d (M 16 0 0 1) with hh | hh
  · obtain ⟨d, hd, rfl⟩ := f_is1 (N := N) (by omega) (by rw [← hc1]; exact hh)
    have cd : (nI d).toNatClampNeg = d := nI_clamp (by omega)
    rcases f_bw_c g 1 9999 with hb | hb
    · by_cases h3 : 5000 < M 16 0 0 (13 + 8 * d + 1) + k_lk M d g
      · have h4 : ¬ M 16 0 0 (13 + 8 * d + 1) + k_lk M d g ≤ 5000 := Int32.not_le.mpr h3
        simp only [e6_mayBuy_0, e6_mayBuy_1, e6_mayBuy_2, e6_mayBuy_5, e6_mayBuy_8, e6_mayBuy_9, e6_mayBuy_10, e6_mayBuy_11, e6_mayBuy_12, e6_mayBuy_15, e6_mayBuy_18, e6_mayBuy_21, e6_mayBuy_22, e6_mayBuy_23, e6_mayBuy_24, e6_mayBuy_25, e6_mayBuy_26, e6_mayBuy_29, e6_mayBuy_30, e6_mayBuy_31, e6_mayBuy_32, e6_mayBuy_35, e6_mayBuy_36, e6_mayBuy_39, e6_mayBuy_42, e6_mayBuy_43, e6_mayBuy_46, e6_mayBuy_47, g_isD, g_in, hh, hb, cd, g_of1 d (by omega), g_lacks d (by omega), h3, h4, m_cE_i, m_cE_v, m_cE_ite, m_kill, (by decide : ¬ (1 : Int32) = 0), if_true, if_false, not_false_eq_true]
      · have h4 : M 16 0 0 (13 + 8 * d + 1) + k_lk M d g ≤ 5000 := Int32.not_lt.mp h3
        simp only [e6_mayBuy_0, e6_mayBuy_1, e6_mayBuy_2, e6_mayBuy_5, e6_mayBuy_8, e6_mayBuy_9, e6_mayBuy_10, e6_mayBuy_11, e6_mayBuy_12, e6_mayBuy_15, e6_mayBuy_18, e6_mayBuy_21, e6_mayBuy_22, e6_mayBuy_23, e6_mayBuy_24, e6_mayBuy_25, e6_mayBuy_26, e6_mayBuy_29, e6_mayBuy_30, e6_mayBuy_31, e6_mayBuy_32, e6_mayBuy_35, e6_mayBuy_36, e6_mayBuy_39, e6_mayBuy_42, e6_mayBuy_43, e6_mayBuy_46, e6_mayBuy_47, g_isD, g_in, hh, hb, cd, g_of1 d (by omega), g_lacks d (by omega), h3, h4, m_cE_i, m_cE_v, m_cE_ite, m_kill, (by decide : ¬ (1 : Int32) = 0), if_true, if_false, not_false_eq_true]
    · simp only [e6_mayBuy_0, e6_mayBuy_1, e6_mayBuy_2, e6_mayBuy_5, e6_mayBuy_8, e6_mayBuy_9, e6_mayBuy_10, e6_mayBuy_11, e6_mayBuy_12, e6_mayBuy_15, e6_mayBuy_18, e6_mayBuy_21, e6_mayBuy_22, e6_mayBuy_23, e6_mayBuy_24, e6_mayBuy_25, e6_mayBuy_26, e6_mayBuy_29, e6_mayBuy_30, e6_mayBuy_31, e6_mayBuy_32, e6_mayBuy_35, e6_mayBuy_36, e6_mayBuy_39, e6_mayBuy_42, e6_mayBuy_43, e6_mayBuy_46, e6_mayBuy_47, g_isD, g_in, hh, hb, m_cE_i, m_cE_v, m_cE_ite, m_kill, (by decide : ¬ (1 : Int32) = 0), if_true, if_false, not_false_eq_true]
  · simp only [e6_mayBuy_0, e6_mayBuy_1, e6_mayBuy_2, e6_mayBuy_5, e6_mayBuy_8, e6_mayBuy_9, e6_mayBuy_10, e6_mayBuy_11, e6_mayBuy_12, e6_mayBuy_15, e6_mayBuy_18, e6_mayBuy_21, e6_mayBuy_22, e6_mayBuy_23, e6_mayBuy_24, e6_mayBuy_25, e6_mayBuy_26, e6_mayBuy_29, e6_mayBuy_30, e6_mayBuy_31, e6_mayBuy_32, e6_mayBuy_35, e6_mayBuy_36, e6_mayBuy_39, e6_mayBuy_42, e6_mayBuy_43, e6_mayBuy_46, e6_mayBuy_47, g_isD, hh, m_cE_i, m_cE_v, m_cE_ite, m_kill, if_true, if_false, not_false_eq_true]
theorem g_mayMelt : m_cl 129 [.ref (m_lc 15 0 0)] M = some (.inl (some (.int (if 0 < M 16 0 0 2 ∧ M 16 0 0 5 < 12 then 1 else 0))), M) := by
  rw [e6_mayMelt_en]
  by_cases h1 : 0 < M 16 0 0 2
  · have h2 : ¬ M 16 0 0 2 ≤ 0 := Int32.not_le.mpr h1
    by_cases h3 : M 16 0 0 5 < 12
    · have h4 : ¬ 12 ≤ M 16 0 0 5 := Int32.not_le.mpr h3
      simp only [e6_mayMelt_0, e6_mayMelt_1, e6_mayMelt_4, e6_mayMelt_5, e6_mayMelt_6, e6_mayMelt_9, e6_mayMelt_10, e6_mayMelt_13, e6_mayMelt_14, e6_mayMelt_15, e6_mayMelt_17, e6_mayMelt_20, e6_mayMelt_21, e6_mayMelt_24, e6_mayMelt_25, h1, h2, h3, h4, if_true, if_false, not_false_eq_true, m_nok11, and_self]
    · have h4 : 12 ≤ M 16 0 0 5 := Int32.not_lt.mp h3
      simp only [e6_mayMelt_0, e6_mayMelt_1, e6_mayMelt_4, e6_mayMelt_5, e6_mayMelt_6, e6_mayMelt_9, e6_mayMelt_10, e6_mayMelt_13, e6_mayMelt_14, e6_mayMelt_15, e6_mayMelt_17, e6_mayMelt_20, e6_mayMelt_21, e6_mayMelt_24, e6_mayMelt_25, h1, h2, h3, h4, if_true, if_false, not_false_eq_true, m_nok10, and_false]
  · have h2 : M 16 0 0 2 ≤ 0 := Int32.not_lt.mp h1
    simp only [e6_mayMelt_0, e6_mayMelt_1, e6_mayMelt_4, e6_mayMelt_5, e6_mayMelt_6, e6_mayMelt_9, e6_mayMelt_10, e6_mayMelt_13, e6_mayMelt_14, e6_mayMelt_15, e6_mayMelt_17, e6_mayMelt_20, e6_mayMelt_21, e6_mayMelt_24, e6_mayMelt_25, h1, h2, if_true, if_false, not_false_eq_true, m_nok10, false_and]
def k_bu (M : m_Mem) (d : Nat) (g : Int32) : m_Mem :=
  let M1 := m_set M 16 0 0 (13 + 8 * d + 0) (M 16 0 0 (13 + 8 * d + 0) + (k_lk M d g - g))
  let M2 := m_set M1 16 0 0 (13 + 8 * d + 1) (M1 16 0 0 (13 + 8 * d + 1) + k_lk M d g)
  m_set M2 16 0 0 (13 + 8 * d + 7) (M2 16 0 0 (13 + 8 * d + 7) + g)
theorem g_buys (d : Nat) (hd : d < 8) (g : Int32) : m_cl 128 [.ref (m_lc 15 0 0), .int (nI d), .int g] M = some (.inl none, k_bu M d g) := by
  rw [e6_buys_en]
  simp only [e6_buys_0, e6_buys_1, e6_buys_2, e6_buys_3, e6_buys_6, e6_buys_7, e6_buys_8, e6_buys_9, e6_buys_10, e6_buys_11, e6_buys_12, e6_buys_13, e6_buys_16, e6_buys_17, e6_buys_18, e6_buys_19, e6_buys_20, e6_buys_23, e6_buys_24, e6_buys_25, e6_buys_27, e6_buys_28, e6_buys_31, g_lacks d hd, g_adds0 d hd, g_adds1 d hd, g_adds7 d hd, m_cE_i, m_cE_v, m_cE_ite, m_kill]
  rfl
/-- blocks of numbers are laid over others -/
def k_bl (M : m_Mem) (a o a2 o2 i : Nat) : m_Mem := fun a' b' c' k' => if a' = a ∧ b' = 0 ∧ c' = 0 ∧ o ≤ k' ∧ k' < o + i then M a2 0 0 (o2 + (k' - o)) else M a' b' c' k'
theorem k_bl_0 (M : m_Mem) (a o a2 o2 : Nat) : k_bl M a o a2 o2 0 = M := by
  funext a' b' c' k'
  unfold k_bl
  rw [if_neg (fun q => by omega)]
theorem k_bl_s (M : m_Mem) (a o a2 o2 i : Nat) : m_set (k_bl M a o a2 o2 i) a 0 0 (o + i) (M a2 0 0 (o2 + i)) = k_bl M a o a2 o2 (i + 1) := by
  funext a' b' c' k'
  rw [m_set_at]
  unfold k_bl
  by_cases h : a' = a ∧ b' = 0 ∧ c' = 0
  · obtain ⟨rfl, rfl, rfl⟩ := h
    by_cases hk : k' = o + i
    · subst hk
      rw [if_pos ⟨rfl, rfl, rfl, rfl⟩, if_pos ⟨rfl, rfl, rfl, by omega, by omega⟩]
      congr 1
      omega
    · rw [if_neg (fun q => hk q.2.2.2)]
      by_cases hk2 : o ≤ k' ∧ k' < o + i
      · rw [if_pos ⟨rfl, rfl, rfl, hk2.1, hk2.2⟩, if_pos ⟨rfl, rfl, rfl, hk2.1, by omega⟩]
      · rw [if_neg (fun q => hk2 q.2.2.2), if_neg (fun q => hk2 ⟨q.2.2.2.1, by omega⟩)]
  · rw [if_neg (fun q => h ⟨q.1, q.2.1, q.2.2.1⟩), if_neg (fun q => h ⟨q.1, q.2.1, q.2.2.1⟩), if_neg (fun q => h ⟨q.1, q.2.1, q.2.2.1⟩)]
theorem k_bl_r (M : m_Mem) (a o a2 o2 i k : Nat) (h : a ≠ a2 ∨ o + i ≤ k) : k_bl M a o a2 o2 i a2 0 0 k = M a2 0 0 k := by
  unfold k_bl
  rw [if_neg (fun q => by omega)]
theorem k_bl_o (M : m_Mem) (a o a2 o2 i a' b c k : Nat) (h : a' ≠ a) : k_bl M a o a2 o2 i a' b c k = M a' b c k := by
  unfold k_bl
  rw [if_neg (fun q => h q.1)]
theorem g_sv1 (M : m_Mem) : ∀ (k i : Nat), i + k = 865 → m_E 108 11 [some (.ref (m_lc 15 0 0)), some (.int (nI i))] [] (k_bl M 17 0 17 173 i) = m_E 108 40 [some (.ref (m_lc 15 0 0)), some (.int (nI 865))] [] (k_bl M 17 0 17 173 865) := by
  intro k
  induction k with
  | zero =>
    intro i hi
    have e : i = 865 := by omega
    subst e
    simp only [e6_saves_11, e6_saves_12, e6_saves_15, e6_saves_18, e6_saves_19, e6_saves_22, e6_saves_23, e6_saves_24, e6_saves_27, e6_saves_28, e6_saves_31, e6_saves_32, e6_saves_33, e6_saves_34, e6_saves_37, (by decide : (865 : Int32) ≤ nI 865), if_true]
  | succ k ih =>
    intro i hi
    have hlt : i < 1038 := by omega
    have hlt2 : i + 173 < 1038 := by omega
    have hle : ¬ (865 : Int32) ≤ nI i := nI_ge (b := 865) (by omega) (by decide)
    have e1 : nI i + 173 = nI (i + 173) := nI_add i 173
    have e2 : k_bl M 17 0 17 173 i 17 0 0 (i + 173) = M 17 0 0 (173 + i) := by rw [k_bl_r _ _ _ _ _ _ _ (Or.inr (by omega)), Nat.add_comm]
    have e3 := k_bl_s M 17 0 17 173 i
    rw [Nat.zero_add] at e3
    rw [e6_saves_11]
    simp only [e6_saves_12, e6_saves_15, e6_saves_18, e6_saves_19, e6_saves_22, e6_saves_23, e6_saves_24, e6_saves_27, e6_saves_28, e6_saves_31, e6_saves_32, e6_saves_33, e6_saves_34, e6_saves_37, hle, hlt, hlt2, e1, e2, e3, if_false, nI_1]
    exact ih (i + 1) (by omega)
theorem g_sv2 (M : m_Mem) (p : Nat) (hp : p < 6) (hpp : M 15 0 0 4 = nI p) : ∀ (k i : Nat), i + k = 173 → m_E 108 52 [some (.ref (m_lc 15 0 0)), some (.int (nI i))] [] (k_bl M 17 (173 * p) 16 0 i) = some (.inl none, m_set (k_bl M 17 (173 * p) 16 0 173) 15 0 0 4 (nI (p + 1))) := by
  have e15 : ∀ i, k_bl M 17 (173 * p) 16 0 i 15 0 0 4 = nI p := fun i => by rw [k_bl_o _ _ _ _ _ _ _ _ _ _ (by decide)]; exact hpp
  intro k
  induction k with
  | zero =>
    intro i hi
    have e : i = 173 := by omega
    subst e
    simp only [e6_saves_52, e6_saves_53, e6_saves_56, e6_saves_59, e6_saves_60, e6_saves_63, e6_saves_66, e6_saves_67, e6_saves_70, e6_saves_71, e6_saves_72, e6_saves_73, e6_saves_74, e6_saves_77, e6_saves_78, e6_saves_79, e6_saves_80, e6_saves_83, e6_saves_86, e6_saves_87, e6_saves_88, e6_saves_91, e6_saves_92, e6_saves_93, e6_saves_96, (by decide : (173 : Int32) ≤ nI 173), e15, nI_1, if_true]
  | succ k ih =>
    intro i hi
    have hlt : i < 173 := by omega
    have hlt2 : 173 * p + i < 1038 := by omega
    have hle : ¬ (173 : Int32) ≤ nI i := nI_ge (by omega) (by decide)
    have e2 : k_bl M 17 (173 * p) 16 0 i 16 0 0 i = M 16 0 0 (0 + i) := by rw [k_bl_r _ _ _ _ _ _ _ (Or.inl (by decide)), Nat.zero_add]
    have e3 := k_bl_s M 17 (173 * p) 16 0 i
    rw [e6_saves_52]
    simp only [e6_saves_53, e6_saves_56, e6_saves_59, e6_saves_60, e6_saves_63, e6_saves_66, e6_saves_67, e6_saves_70, e6_saves_71, e6_saves_72, e6_saves_73, e6_saves_74, e6_saves_77, e6_saves_78, e6_saves_79, e6_saves_80, e6_saves_83, hle, hlt, hlt2, e15, g_x173, nI_add, e2, e3, if_false, nI_1]
    exact ih (i + 1) (by omega)
/-- what saving does -/
def k_sv (M : m_Mem) (p : Nat) : m_Mem :=
  if p = 6 then m_set (k_bl (m_set (k_bl M 17 0 17 173 865) 15 0 0 4 (nI 5)) 17 865 16 0 173) 15 0 0 4 (nI 6)
  else m_set (k_bl M 17 (173 * p) 16 0 173) 15 0 0 4 (nI (p + 1))
theorem g_saves (p : Nat) (hp : p ≤ 6) (hpp : M 15 0 0 4 = nI p) : m_cl 108 [.ref (m_lc 15 0 0)] M = some (.inl none, k_sv M p) := by
  rw [e6_saves_en]
  unfold k_sv
  by_cases h : p = 6
  · subst h
    rw [if_pos rfl]
    have L1 := g_sv1 M 865 0 rfl
    rw [k_bl_0] at L1
    have e4 : k_bl M 17 0 17 173 865 15 0 0 4 = nI 6 := by rw [k_bl_o _ _ _ _ _ _ _ _ _ _ (by decide)]; exact hpp
    have e5 : nI 6 - 1 = nI 5 := by decide
    have L2 := g_sv2 (m_set (k_bl M 17 0 17 173 865) 15 0 0 4 (nI 5)) 5 (by decide) (m_set_i) 173 0 rfl
    rw [k_bl_0] at L2
    simp only [e6_saves_0, e6_saves_1, e6_saves_4, e6_saves_6, e6_saves_9, e6_saves_10, hpp, (by decide : nI 6 = 6), m_kill, ne_eq, if_true, if_false, not_false_eq_true]
    rw [show (0 : Int32) = nI 0 from rfl, L1]
    simp only [e6_saves_40, e6_saves_41, e6_saves_42, e6_saves_45, e6_saves_46, e6_saves_47, e6_saves_50, e6_saves_51, e4, e5, m_kill]
    rw [show (0 : Int32) = nI 0 from rfl, L2]
    rfl
  · rw [if_neg h]
    have hne : ¬ nI p = 6 := fun q => h ((nI_eq (by omega) (by decide)).mp (q : nI p = nI 6))
    have L2 := g_sv2 M p (by omega) hpp 173 0 rfl
    rw [k_bl_0] at L2
    simp only [e6_saves_0, e6_saves_1, e6_saves_4, e6_saves_6, e6_saves_9, hpp, hne, ne_eq, if_true, if_false, not_false_eq_true]
    rw [e6_saves_50]
    simp only [e6_saves_51, m_kill]
    exact L2
end MODEL
