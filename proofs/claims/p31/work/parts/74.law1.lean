/-! THE LAW'S OWN SUMS: cell, low, priced, staked, stakes, buys, melts. The arrays: g (16), d (17), c (18), b (19). -/
theorem i_and (v : Int32) : ∃ w, w < 2 ^ 31 ∧ v &&& 2147483647 = nI w := by
  refine ⟨(v.toBitVec &&& 2147483647#32).toNat, ?_, ?_⟩
  · rw [BitVec.toNat_and]
    exact Nat.lt_of_le_of_lt Nat.and_le_right (by decide)
  · apply Int32.toBitVec_inj.1
    show v.toBitVec &&& 2147483647#32 = BitVec.ofNat 32 _
    rw [BitVec.ofNat_toNat, BitVec.setWidth_eq]
section LAW1
variable {M : m_Mem} {N B : Nat}
theorem l_cell {L : Nat} (h27 : M 27 0 0 0 = nI L) (hL : L < 2 ^ 31) (i : Nat) (hi : i < 2 ^ 31) : ∃ v, m_cl 100 [.ref (m_lc 26 0 0), .int (nI i)] M = some (.inl (some (.int v)), M) := by
  rw [eL_cell_en]
  by_cases h : i < L
  · have hle : ¬ nI L ≤ nI i := nI_ge h hL
    have hin : m_in (nI i) (M 27 0 0 0).toNatClampNeg = true := by
      rw [h27, nI_clamp hL]
      exact m_in_n h hL
    refine ⟨M 26 0 0 (nI i).toNatClampNeg, ?_⟩
    simp only [eL_cell_0, eL_cell_1, eL_cell_2, eL_cell_3, eL_cell_6, eL_cell_7, eL_cell_8, eL_cell_9, eL_cell_12, eL_cell_14, eL_cell_15, eL_cell_16, eL_cell_17, eL_cell_18, h27, hle, if_false, hin]
    simp only [h27] at hin
    simp only [eL_cell_0, eL_cell_1, eL_cell_2, eL_cell_3, eL_cell_6, eL_cell_7, eL_cell_8, eL_cell_9, eL_cell_12, eL_cell_14, eL_cell_15, eL_cell_16, eL_cell_17, eL_cell_18, h27, hle, if_false, hin]
  · have hle : nI L ≤ nI i := nI_le (by omega) hi
    exact ⟨40503 * (nI i + 3), by simp only [eL_cell_0, eL_cell_1, eL_cell_2, eL_cell_3, eL_cell_6, eL_cell_7, eL_cell_8, eL_cell_9, eL_cell_12, eL_cell_14, eL_cell_15, eL_cell_16, eL_cell_17, eL_cell_18, h27, hle, if_true]⟩
theorem l_low (v : Int32) (n : Nat) (h0 : 0 < n) (hn : n < 2 ^ 31) : ∃ r, r < n ∧ m_cl 101 [.int v, .int (nI n)] M = some (.inl (some (.int (nI r))), M) := by
  obtain ⟨w, hw, e⟩ := i_and v
  refine ⟨w % n, Nat.mod_lt _ h0, ?_⟩
  have hne := nI_ne0 h0 hn
  rw [eL_low_en]
  simp only [eL_low_0, eL_low_1, eL_low_3, eL_low_4, eL_low_5, eL_low_6, hne, not_false_eq_true, e, nI_remd hw hn h0]
theorem l_priced (g f : Int32) : m_cl 102 [.ref (m_lc 16 0 0), .int g, .int f] M = some (.inl (some (.int (k_price (y_K M) g f))), M) := by
  rw [eL_priced_en]
  unfold k_price k_told
  simp only [eL_priced_0, eL_priced_3, eL_priced_4, eL_priced_6, eL_priced_7, eL_priced_8, eL_priced_9, eL_priced_10, eL_priced_13, eL_priced_14, eL_priced_15, eL_priced_16, eL_priced_19, eL_priced_20, eL_priced_21, eL_priced_23, eL_priced_24, eL_priced_25, eL_priced_27, eL_priced_28, (by decide : ¬ (1000 : Int32) = 0), (by decide : ¬ (10 : Int32) = 0), not_false_eq_true, y_16 (show 6 < 13 by decide), y_16 (show 9 < 13 by decide), Int32.mul_comm g]
theorem l_staked_l : ∀ (k n : Nat), n + k = 10 → m_E 104 4 [some (.ref (m_lc 18 0 0)), some (.int (k_tk (y_K M) n)), some (.int (nI (6 * n)))] [] M = some (.inl (some (.int (k_tk (y_K M) 10))), M) := by
  intro k
  induction k with
  | zero =>
    intro n hn
    have e : n = 10 := by omega
    subst e
    simp only [eL_staked_4, eL_staked_5, eL_staked_7, eL_staked_10, eL_staked_11, eL_staked_12, eL_staked_13, eL_staked_14, eL_staked_15, eL_staked_16, eL_staked_19, eL_staked_20, eL_staked_23, eL_staked_24, eL_staked_25, eL_staked_26, eL_staked_29, eL_staked_32, eL_staked_33, (by decide : (60 : Int32) ≤ nI (6 * 10)), if_true]
  | succ k ih =>
    intro n hn
    have hlt : n < 10 := by omega
    have hle : ¬ (60 : Int32) ≤ nI (6 * n) := nI_ge (b := 60) (by omega) (by decide)
    have ih2 := ih (n + 1) (by omega)
    have e6 : nI (6 * n) + 6 = nI (6 * (n + 1)) := nI_add (6 * n) 6
    have er : y_K M 16 0 0 (77 + 6 * n + 1) = M 18 0 0 (6 * n + 1) := y_18 hlt (by decide)
    have et : k_tk (y_K M) (n + 1) = if y_K M 16 0 0 (77 + 6 * n + 1) < 0 then k_tk (y_K M) n + 0 else k_tk (y_K M) n + 1 := rfl
    have hb : 6 * n + 1 < 60 := by omega
    rw [et, er] at ih2
    rw [eL_staked_4]
    by_cases h0 : M 18 0 0 (6 * n + 1) < 0
    · have h1 : ¬ 0 ≤ M 18 0 0 (6 * n + 1) := Int32.not_le.mpr h0
      rw [if_pos h0] at ih2
      simp only [eL_staked_5, eL_staked_7, eL_staked_10, eL_staked_11, eL_staked_12, eL_staked_13, eL_staked_14, eL_staked_15, eL_staked_16, eL_staked_19, eL_staked_20, eL_staked_23, eL_staked_24, eL_staked_25, eL_staked_26, eL_staked_29, hle, nI_1, hb, h1, if_false, m_kill, e6]
      exact ih2
    · have h1 : 0 ≤ M 18 0 0 (6 * n + 1) := Int32.not_lt.mp h0
      rw [if_neg h0] at ih2
      simp only [eL_staked_5, eL_staked_7, eL_staked_10, eL_staked_11, eL_staked_12, eL_staked_13, eL_staked_14, eL_staked_15, eL_staked_16, eL_staked_19, eL_staked_20, eL_staked_23, eL_staked_24, eL_staked_25, eL_staked_26, eL_staked_29, hle, nI_1, hb, h1, if_false, if_true, m_kill, e6]
      exact ih2
theorem l_staked : m_cl 104 [.ref (m_lc 18 0 0)] M = some (.inl (some (.int (k_tk (y_K M) 10))), M) := by
  rw [eL_staked_en]
  simp only [eL_staked_0, eL_staked_1, eL_staked_2, eL_staked_3, m_kill]
  exact l_staked_l 10 0 rfl
/-- a digger takes a claim -/
def l_st (M : m_Mem) (d c : Nat) : m_Mem := m_set (m_set (m_set (m_set M 17 0 0 (8 * d + 2) (nI c)) 18 0 0 (6 * c + 1) (nI d)) 18 0 0 (6 * c + 2) 0) 18 0 0 (6 * c + 5) 0
theorem y_st (M : m_Mem) {d c : Nat} (hd : d < 8) (hc : c < 10) : y_K (l_st M d c) = k_st (y_K M) d c := by
  unfold l_st k_st
  rw [y_s18 hc (by decide), y_s18 hc (by decide), y_s18 hc (by decide), y_s17 hd (by decide)]
theorem l_stakes (hN : M 16 0 0 1 = nI N) (hN8 : N ≤ 8) (d c : Nat) (hd : d < 16) (hc : c < 10) : m_cl 103 [.ref (m_lc 16 0 0), .ref (m_lc 17 0 0), .ref (m_lc 18 0 0), .int (nI d), .int (nI c)] M =
    if N ≤ d then some (.inl (some (.int (-11))), M) else if 0 ≤ M 17 0 0 (8 * d + 2) ∨ 0 ≤ M 18 0 0 (6 * c + 1) then some (.inl (some (.int (-13))), M)
    else some (.inl (some (.int (k_tk (y_K (l_st M d c)) 10))), l_st M d c) := by
  rw [eL_stakes_en]
  by_cases h1 : N ≤ d
  · have h2 : ¬ nI d < nI N := nI_nlt h1 (by omega)
    simp only [eL_stakes_0, eL_stakes_1, eL_stakes_2, eL_stakes_3, eL_stakes_4, eL_stakes_7, eL_stakes_9, eL_stakes_10, eL_stakes_11, eL_stakes_13, eL_stakes_14, eL_stakes_15, eL_stakes_16, eL_stakes_17, eL_stakes_18, eL_stakes_21, eL_stakes_22, eL_stakes_24, eL_stakes_26, eL_stakes_27, eL_stakes_28, eL_stakes_29, eL_stakes_30, eL_stakes_33, eL_stakes_35, eL_stakes_36, eL_stakes_37, eL_stakes_39, eL_stakes_40, eL_stakes_41, eL_stakes_42, eL_stakes_43, eL_stakes_45, eL_stakes_46, eL_stakes_47, eL_stakes_49, eL_stakes_51, eL_stakes_52, eL_stakes_53, eL_stakes_54, eL_stakes_55, eL_stakes_56, eL_stakes_57, eL_stakes_59, eL_stakes_61, eL_stakes_62, eL_stakes_63, eL_stakes_64, eL_stakes_65, eL_stakes_66, eL_stakes_67, eL_stakes_69, eL_stakes_71, eL_stakes_72, eL_stakes_73, eL_stakes_74, eL_stakes_75, eL_stakes_76, eL_stakes_77, eL_stakes_80, hN, h1, h2, if_true, if_false]
  · have h2 : nI d < nI N := nI_lt (by omega) (by omega)
    have b1 : 8 * d + 2 < 64 := by omega
    have b2 : 6 * c + 1 < 60 := by omega
    have b3 : 6 * c + 2 < 60 := by omega
    have b4 : 6 * c + 5 < 60 := by omega
    by_cases h3 : 0 ≤ M 17 0 0 (8 * d + 2)
    · simp only [eL_stakes_0, eL_stakes_1, eL_stakes_2, eL_stakes_3, eL_stakes_4, eL_stakes_7, eL_stakes_9, eL_stakes_10, eL_stakes_11, eL_stakes_13, eL_stakes_14, eL_stakes_15, eL_stakes_16, eL_stakes_17, eL_stakes_18, eL_stakes_21, eL_stakes_22, eL_stakes_24, eL_stakes_26, eL_stakes_27, eL_stakes_28, eL_stakes_29, eL_stakes_30, eL_stakes_33, eL_stakes_35, eL_stakes_36, eL_stakes_37, eL_stakes_39, eL_stakes_40, eL_stakes_41, eL_stakes_42, eL_stakes_43, eL_stakes_45, eL_stakes_46, eL_stakes_47, eL_stakes_49, eL_stakes_51, eL_stakes_52, eL_stakes_53, eL_stakes_54, eL_stakes_55, eL_stakes_56, eL_stakes_57, eL_stakes_59, eL_stakes_61, eL_stakes_62, eL_stakes_63, eL_stakes_64, eL_stakes_65, eL_stakes_66, eL_stakes_67, eL_stakes_69, eL_stakes_71, eL_stakes_72, eL_stakes_73, eL_stakes_74, eL_stakes_75, eL_stakes_76, eL_stakes_77, eL_stakes_80, hN, h1, h2, h3, b1, g_x8, i_p2, true_or, if_true, if_false]
    · have h4 : M 17 0 0 (8 * d + 2) < 0 := Int32.not_le.mp h3
      by_cases h5 : 0 ≤ M 18 0 0 (6 * c + 1)
      · have h6 : ¬ M 18 0 0 (6 * c + 1) < 0 := Int32.not_lt.mpr h5
        simp only [eL_stakes_0, eL_stakes_1, eL_stakes_2, eL_stakes_3, eL_stakes_4, eL_stakes_7, eL_stakes_9, eL_stakes_10, eL_stakes_11, eL_stakes_13, eL_stakes_14, eL_stakes_15, eL_stakes_16, eL_stakes_17, eL_stakes_18, eL_stakes_21, eL_stakes_22, eL_stakes_24, eL_stakes_26, eL_stakes_27, eL_stakes_28, eL_stakes_29, eL_stakes_30, eL_stakes_33, eL_stakes_35, eL_stakes_36, eL_stakes_37, eL_stakes_39, eL_stakes_40, eL_stakes_41, eL_stakes_42, eL_stakes_43, eL_stakes_45, eL_stakes_46, eL_stakes_47, eL_stakes_49, eL_stakes_51, eL_stakes_52, eL_stakes_53, eL_stakes_54, eL_stakes_55, eL_stakes_56, eL_stakes_57, eL_stakes_59, eL_stakes_61, eL_stakes_62, eL_stakes_63, eL_stakes_64, eL_stakes_65, eL_stakes_66, eL_stakes_67, eL_stakes_69, eL_stakes_71, eL_stakes_72, eL_stakes_73, eL_stakes_74, eL_stakes_75, eL_stakes_76, eL_stakes_77, eL_stakes_80, hN, h1, h2, h3, h5, h6, b1, b2, g_x8, g_x6, i_p2, nI_1, or_true, if_true, if_false]
      · have h6 : M 18 0 0 (6 * c + 1) < 0 := Int32.not_le.mp h5
        simp only [eL_stakes_0, eL_stakes_1, eL_stakes_2, eL_stakes_3, eL_stakes_4, eL_stakes_7, eL_stakes_9, eL_stakes_10, eL_stakes_11, eL_stakes_13, eL_stakes_14, eL_stakes_15, eL_stakes_16, eL_stakes_17, eL_stakes_18, eL_stakes_21, eL_stakes_22, eL_stakes_24, eL_stakes_26, eL_stakes_27, eL_stakes_28, eL_stakes_29, eL_stakes_30, eL_stakes_33, eL_stakes_35, eL_stakes_36, eL_stakes_37, eL_stakes_39, eL_stakes_40, eL_stakes_41, eL_stakes_42, eL_stakes_43, eL_stakes_45, eL_stakes_46, eL_stakes_47, eL_stakes_49, eL_stakes_51, eL_stakes_52, eL_stakes_53, eL_stakes_54, eL_stakes_55, eL_stakes_56, eL_stakes_57, eL_stakes_59, eL_stakes_61, eL_stakes_62, eL_stakes_63, eL_stakes_64, eL_stakes_65, eL_stakes_66, eL_stakes_67, eL_stakes_69, eL_stakes_71, eL_stakes_72, eL_stakes_73, eL_stakes_74, eL_stakes_75, eL_stakes_76, eL_stakes_77, eL_stakes_80, hN, h1, h2, h3, h5, h6, b1, b2, b3, b4, g_x8, g_x6, i_p2, i_p5, nI_1, or_self, if_true, if_false, l_staked, m_cE_i]
        rfl
/-- a digger buys -/
def l_bu (M : m_Mem) (d : Nat) (g : Int32) : m_Mem :=
  let t := if g < M 17 0 0 (8 * d) then g else M 17 0 0 (8 * d)
  let M1 := m_set M 17 0 0 (8 * d) (M 17 0 0 (8 * d) - t)
  let M2 := m_set M1 17 0 0 (8 * d + 1) (M1 17 0 0 (8 * d + 1) + (g - t))
  m_set M2 17 0 0 (8 * d + 7) (M2 17 0 0 (8 * d + 7) + g)
theorem l_buys (hN : M 16 0 0 1 = nI N) (hN8 : N ≤ 8) (d : Nat) (hd : d < 16) (g : Int32) : m_cl 106 [.ref (m_lc 16 0 0), .ref (m_lc 17 0 0), .int (nI d), .int g] M =
    if N ≤ d then some (.inl (some (.int (-11))), M) else if 5000 < M 17 0 0 (8 * d + 1) + g - (if g < M 17 0 0 (8 * d) then g else M 17 0 0 (8 * d)) then some (.inl (some (.int (-13))), M)
    else some (.inl (some (.int (l_bu M d g 17 0 0 (8 * d + 1)))), l_bu M d g) := by
  rw [eL_buys_en]
  by_cases h1 : N ≤ d
  · have h2 : ¬ nI d < nI N := nI_nlt h1 (by omega)
    simp only [eL_buys_0, eL_buys_1, eL_buys_2, eL_buys_3, eL_buys_4, eL_buys_7, eL_buys_9, eL_buys_10, eL_buys_12, eL_buys_13, eL_buys_14, eL_buys_16, eL_buys_17, eL_buys_18, eL_buys_20, eL_buys_21, eL_buys_24, eL_buys_25, eL_buys_28, eL_buys_29, eL_buys_31, eL_buys_32, eL_buys_34, eL_buys_35, eL_buys_37, eL_buys_38, eL_buys_39, eL_buys_40, eL_buys_41, eL_buys_42, eL_buys_44, eL_buys_45, eL_buys_48, eL_buys_51, eL_buys_53, eL_buys_54, eL_buys_55, eL_buys_57, eL_buys_58, eL_buys_59, eL_buys_61, eL_buys_62, eL_buys_63, eL_buys_64, eL_buys_66, eL_buys_67, eL_buys_68, eL_buys_69, eL_buys_70, eL_buys_71, eL_buys_73, eL_buys_74, eL_buys_75, eL_buys_76, eL_buys_77, eL_buys_79, eL_buys_81, eL_buys_82, eL_buys_83, eL_buys_84, eL_buys_85, eL_buys_86, eL_buys_87, eL_buys_88, eL_buys_90, eL_buys_91, eL_buys_92, eL_buys_93, hN, h1, h2, if_true, if_false]
  · have h2 : nI d < nI N := nI_lt (by omega) (by omega)
    have b0 : 8 * d < 64 := by omega
    have b1 : 8 * d + 1 < 64 := by omega
    have b7 : 8 * d + 7 < 64 := by omega
    have key : ∀ t : Int32, m_E 106 32 [some (.ref (m_lc 16 0 0)), some (.ref (m_lc 17 0 0)), some (.int (nI d)), some (.int g), some (.int (nI (8 * d))), none] [.int t] M =
        if 5000 < M 17 0 0 (8 * d + 1) + g - t then some (.inl (some (.int (-13))), M) else
        (let M1 := m_set M 17 0 0 (8 * d) (M 17 0 0 (8 * d) - t)
        let M2 := m_set M1 17 0 0 (8 * d + 1) (M1 17 0 0 (8 * d + 1) + (g - t))
        let M3 := m_set M2 17 0 0 (8 * d + 7) (M2 17 0 0 (8 * d + 7) + g)
        some (.inl (some (.int (M3 17 0 0 (8 * d + 1)))), M3)) := by
      intro t
      by_cases h3 : 5000 < M 17 0 0 (8 * d + 1) + g - t
      · have h4 : ¬ M 17 0 0 (8 * d + 1) + g - t ≤ 5000 := Int32.not_le.mpr h3
        simp only [eL_buys_32, eL_buys_34, eL_buys_35, eL_buys_37, eL_buys_38, eL_buys_39, eL_buys_40, eL_buys_41, eL_buys_42, eL_buys_44, eL_buys_45, eL_buys_48, eL_buys_51, eL_buys_53, eL_buys_54, eL_buys_55, eL_buys_57, eL_buys_58, eL_buys_59, eL_buys_61, eL_buys_62, eL_buys_63, eL_buys_64, eL_buys_66, eL_buys_67, eL_buys_68, eL_buys_69, eL_buys_70, eL_buys_71, eL_buys_73, eL_buys_74, eL_buys_75, eL_buys_76, eL_buys_77, eL_buys_79, eL_buys_81, eL_buys_82, eL_buys_83, eL_buys_84, eL_buys_85, eL_buys_86, eL_buys_87, eL_buys_88, eL_buys_90, eL_buys_91, eL_buys_92, eL_buys_93, b1, nI_1, m_kill, h3, h4, if_true, if_false]
      · have h4 : M 17 0 0 (8 * d + 1) + g - t ≤ 5000 := Int32.not_lt.mp h3
        simp only [eL_buys_32, eL_buys_34, eL_buys_35, eL_buys_37, eL_buys_38, eL_buys_39, eL_buys_40, eL_buys_41, eL_buys_42, eL_buys_44, eL_buys_45, eL_buys_48, eL_buys_51, eL_buys_53, eL_buys_54, eL_buys_55, eL_buys_57, eL_buys_58, eL_buys_59, eL_buys_61, eL_buys_62, eL_buys_63, eL_buys_64, eL_buys_66, eL_buys_67, eL_buys_68, eL_buys_69, eL_buys_70, eL_buys_71, eL_buys_73, eL_buys_74, eL_buys_75, eL_buys_76, eL_buys_77, eL_buys_79, eL_buys_81, eL_buys_82, eL_buys_83, eL_buys_84, eL_buys_85, eL_buys_86, eL_buys_87, eL_buys_88, eL_buys_90, eL_buys_91, eL_buys_92, eL_buys_93, b0, b1, b7, nI_1, i_p7, m_kill, h3, h4, if_true, if_false]
    by_cases h5 : g < M 17 0 0 (8 * d)
    · have h6 : ¬ M 17 0 0 (8 * d) ≤ g := Int32.not_le.mpr h5
      simp only [eL_buys_0, eL_buys_1, eL_buys_2, eL_buys_3, eL_buys_4, eL_buys_7, eL_buys_9, eL_buys_10, eL_buys_12, eL_buys_13, eL_buys_14, eL_buys_16, eL_buys_17, eL_buys_18, eL_buys_20, eL_buys_21, eL_buys_24, eL_buys_25, eL_buys_28, eL_buys_29, eL_buys_31, hN, h1, h2, b0, g_x8, m_kill, h6, if_true, if_false]
      refine (key g).trans ?_
      unfold l_bu
      simp only [h5, if_true]
    · have h6 : M 17 0 0 (8 * d) ≤ g := Int32.not_lt.mp h5
      simp only [eL_buys_0, eL_buys_1, eL_buys_2, eL_buys_3, eL_buys_4, eL_buys_7, eL_buys_9, eL_buys_10, eL_buys_12, eL_buys_13, eL_buys_14, eL_buys_16, eL_buys_17, eL_buys_18, eL_buys_20, eL_buys_21, eL_buys_24, eL_buys_25, eL_buys_28, eL_buys_29, eL_buys_31, hN, h1, h2, b0, g_x8, m_kill, h6, if_true, if_false]
      refine (key _).trans ?_
      unfold l_bu
      simp only [h5, if_false]
/-- the lot is melted -/
def l_me (M : m_Mem) (b : Nat) : m_Mem :=
  let M1 := m_set (m_set (m_set M 19 0 0 (3 * b) (M 16 0 0 2)) 19 0 0 (3 * b + 1) (M 16 0 0 3)) 19 0 0 (3 * b + 2) (M 16 0 0 4)
  m_set (m_set (m_set (m_set M1 16 0 0 2 0) 16 0 0 3 0) 16 0 0 4 0) 16 0 0 5 (nI (b + 1))
theorem l_melts (hB : M 16 0 0 5 = nI B) (hB12 : B ≤ 12) : m_cl 107 [.ref (m_lc 16 0 0), .ref (m_lc 19 0 0)] M =
    if M 16 0 0 2 = 0 ∨ B = 12 then some (.inl (some (.int (-13))), M) else some (.inl (some (.int (nI B))), l_me M B) := by
  rw [eL_melts_en]
  by_cases h1 : M 16 0 0 2 = 0
  · simp only [eL_melts_0, eL_melts_1, eL_melts_2, eL_melts_3, eL_melts_6, eL_melts_7, eL_melts_8, eL_melts_9, eL_melts_11, eL_melts_14, eL_melts_16, eL_melts_17, eL_melts_18, eL_melts_19, eL_melts_20, eL_melts_21, eL_melts_22, eL_melts_23, eL_melts_24, eL_melts_25, eL_melts_26, eL_melts_27, eL_melts_28, eL_melts_29, eL_melts_30, eL_melts_31, eL_melts_32, eL_melts_33, eL_melts_34, eL_melts_35, eL_melts_36, eL_melts_37, eL_melts_38, eL_melts_39, eL_melts_40, eL_melts_41, eL_melts_42, eL_melts_43, eL_melts_44, eL_melts_45, eL_melts_46, eL_melts_47, eL_melts_48, eL_melts_49, eL_melts_50, eL_melts_51, eL_melts_52, eL_melts_53, eL_melts_54, eL_melts_55, eL_melts_56, eL_melts_57, eL_melts_58, eL_melts_59, eL_melts_60, eL_melts_61, eL_melts_62, eL_melts_63, eL_melts_64, eL_melts_65, eL_melts_66, eL_melts_67, eL_melts_68, eL_melts_69, eL_melts_70, eL_melts_71, eL_melts_72, eL_melts_73, eL_melts_74, eL_melts_75, h1, true_or, if_true]
  · by_cases h2 : B = 12
    · have h3 : nI B = 12 := by rw [h2]; rfl
      simp only [eL_melts_0, eL_melts_1, eL_melts_2, eL_melts_3, eL_melts_6, eL_melts_7, eL_melts_8, eL_melts_9, eL_melts_11, eL_melts_14, eL_melts_16, eL_melts_17, eL_melts_18, eL_melts_19, eL_melts_20, eL_melts_21, eL_melts_22, eL_melts_23, eL_melts_24, eL_melts_25, eL_melts_26, eL_melts_27, eL_melts_28, eL_melts_29, eL_melts_30, eL_melts_31, eL_melts_32, eL_melts_33, eL_melts_34, eL_melts_35, eL_melts_36, eL_melts_37, eL_melts_38, eL_melts_39, eL_melts_40, eL_melts_41, eL_melts_42, eL_melts_43, eL_melts_44, eL_melts_45, eL_melts_46, eL_melts_47, eL_melts_48, eL_melts_49, eL_melts_50, eL_melts_51, eL_melts_52, eL_melts_53, eL_melts_54, eL_melts_55, eL_melts_56, eL_melts_57, eL_melts_58, eL_melts_59, eL_melts_60, eL_melts_61, eL_melts_62, eL_melts_63, eL_melts_64, eL_melts_65, eL_melts_66, eL_melts_67, eL_melts_68, eL_melts_69, eL_melts_70, eL_melts_71, eL_melts_72, eL_melts_73, eL_melts_74, eL_melts_75, h1, h2, hB, h3, or_true, if_true, if_false]
      simp only [eL_melts_0, eL_melts_1, eL_melts_2, eL_melts_3, eL_melts_6, eL_melts_7, eL_melts_8, eL_melts_9, eL_melts_11, eL_melts_14, eL_melts_16, eL_melts_17, eL_melts_18, eL_melts_19, eL_melts_20, eL_melts_21, eL_melts_22, eL_melts_23, eL_melts_24, eL_melts_25, eL_melts_26, eL_melts_27, eL_melts_28, eL_melts_29, eL_melts_30, eL_melts_31, eL_melts_32, eL_melts_33, eL_melts_34, eL_melts_35, eL_melts_36, eL_melts_37, eL_melts_38, eL_melts_39, eL_melts_40, eL_melts_41, eL_melts_42, eL_melts_43, eL_melts_44, eL_melts_45, eL_melts_46, eL_melts_47, eL_melts_48, eL_melts_49, eL_melts_50, eL_melts_51, eL_melts_52, eL_melts_53, eL_melts_54, eL_melts_55, eL_melts_56, eL_melts_57, eL_melts_58, eL_melts_59, eL_melts_60, eL_melts_61, eL_melts_62, eL_melts_63, eL_melts_64, eL_melts_65, eL_melts_66, eL_melts_67, eL_melts_68, eL_melts_69, eL_melts_70, eL_melts_71, eL_melts_72, eL_melts_73, eL_melts_74, eL_melts_75, h2, (by decide : nI 12 = 12), if_true]
    · have h3 : ¬ nI B = 12 := fun q => h2 ((nI_eq (by omega) (by decide)).mp (q : nI B = nI 12))
      have b0 : 3 * B < 36 := by omega
      have b1 : 3 * B + 1 < 36 := by omega
      have b2 : 3 * B + 2 < 36 := by omega
      simp only [eL_melts_0, eL_melts_1, eL_melts_2, eL_melts_3, eL_melts_6, eL_melts_7, eL_melts_8, eL_melts_9, eL_melts_11, eL_melts_14, eL_melts_16, eL_melts_17, eL_melts_18, eL_melts_19, eL_melts_20, eL_melts_21, eL_melts_22, eL_melts_23, eL_melts_24, eL_melts_25, eL_melts_26, eL_melts_27, eL_melts_28, eL_melts_29, eL_melts_30, eL_melts_31, eL_melts_32, eL_melts_33, eL_melts_34, eL_melts_35, eL_melts_36, eL_melts_37, eL_melts_38, eL_melts_39, eL_melts_40, eL_melts_41, eL_melts_42, eL_melts_43, eL_melts_44, eL_melts_45, eL_melts_46, eL_melts_47, eL_melts_48, eL_melts_49, eL_melts_50, eL_melts_51, eL_melts_52, eL_melts_53, eL_melts_54, eL_melts_55, eL_melts_56, eL_melts_57, eL_melts_58, eL_melts_59, eL_melts_60, eL_melts_61, eL_melts_62, eL_melts_63, eL_melts_64, eL_melts_65, eL_melts_66, eL_melts_67, eL_melts_68, eL_melts_69, eL_melts_70, eL_melts_71, eL_melts_72, eL_melts_73, eL_melts_74, eL_melts_75, h1, h2, hB, h3, b0, b1, b2, g_x3, nI_1, i_p2, nI_pred, m_set_at, true_and, and_true, false_and, and_false, if_true, if_false, Nat.reduceEqDiff, eq_self, reduceCtorEq, or_self, m_set_i]
      rfl
end LAW1
