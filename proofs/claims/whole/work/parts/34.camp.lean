/-! CAMP, the worst, the least, the safe; the share; the hashes. -/
def f_wo (M : m_Mem) (j : Nat) : Nat → Int32 × Int32
  | 0 => (-1, 0)
  | n + 1 => if (f_wo M j n).2 < f_loss M j n then (nI n, f_loss M j n) else f_wo M j n
theorem s_wo_l (j : Nat) (hj : j < 9) (N : Nat) (hN : N ≤ 8) (M : m_Mem) (hc : M 7 j 0 5 = nI N) : ∀ (i n : Nat) (z : Option Value), n + i = N → m_E 30 6 [some (.ref (m_lc 7 j 0)), some (.int (f_wo M j n).1), some (.int (f_wo M j n).2), some (.int (nI n)), z] [] M = some (.inl (some (.int (f_wo M j N).1)), M) := by
  have h7 := m_d7 hj
  have h8 := m_d8 hj
  intro i
  induction i with
  | zero =>
    intro n z hn
    have e : n = N := by omega
    subst e
    have hle : nI n ≤ nI n := nI_le (Nat.le_refl _) (by omega)
    simp only [e0_worstDigger_6, e0_worstDigger_7, e0_worstDigger_8, e0_worstDigger_11, e0_worstDigger_14, e0_worstDigger_15, e0_worstDigger_16, e0_worstDigger_19, e0_worstDigger_20, e0_worstDigger_21, e0_worstDigger_24, e0_worstDigger_26, e0_worstDigger_28, e0_worstDigger_29, e0_worstDigger_32, e0_worstDigger_34, e0_worstDigger_35, e0_worstDigger_36, e0_worstDigger_37, e0_worstDigger_40, e0_worstDigger_43, e0_worstDigger_44, h7, hc, hle, if_true]
  | succ i ih =>
    intro n z hn
    have hlt : n < 8 := by omega
    have h12 := m_d12 hj hlt
    have hle : ¬ nI N ≤ nI n := nI_ge (by omega) (by omega)
    have ih2 := fun z => ih (n + 1) z (by omega)
    rw [e0_worstDigger_6]
    by_cases hb : (f_wo M j n).2 < f_loss M j n
    · have hb2 : ¬ f_loss M j n ≤ (f_wo M j n).2 := Int32.not_le.mpr hb
      have e : f_wo M j (n + 1) = (nI n, f_loss M j n) := if_pos hb
      rw [e] at ih2
      simp only [e0_worstDigger_7, e0_worstDigger_8, e0_worstDigger_11, e0_worstDigger_14, e0_worstDigger_15, e0_worstDigger_16, e0_worstDigger_19, e0_worstDigger_20, e0_worstDigger_21, e0_worstDigger_24, e0_worstDigger_26, e0_worstDigger_28, e0_worstDigger_29, e0_worstDigger_32, e0_worstDigger_34, e0_worstDigger_35, e0_worstDigger_36, e0_worstDigger_37, e0_worstDigger_40, h7, h8, h12, hc, hlt, hle, hb2, if_false, s_loss j hj n hlt, m_cE_i, m_cE_v, m_cE_ite, m_kill, nI_1]
      exact ih2 _
    · have hb2 : f_loss M j n ≤ (f_wo M j n).2 := Int32.not_lt.mp hb
      have e : f_wo M j (n + 1) = f_wo M j n := if_neg hb
      rw [e] at ih2
      simp only [e0_worstDigger_7, e0_worstDigger_8, e0_worstDigger_11, e0_worstDigger_14, e0_worstDigger_15, e0_worstDigger_16, e0_worstDigger_19, e0_worstDigger_20, e0_worstDigger_21, e0_worstDigger_24, e0_worstDigger_26, e0_worstDigger_28, e0_worstDigger_29, e0_worstDigger_32, e0_worstDigger_34, e0_worstDigger_35, e0_worstDigger_36, e0_worstDigger_37, e0_worstDigger_40, h7, h8, h12, hc, hlt, hle, hb2, if_false, if_true, s_loss j hj n hlt, m_cE_i, m_cE_v, m_cE_ite, m_kill, nI_1]
      exact ih2 _
theorem s_wo (j : Nat) (hj : j < 9) (N : Nat) (hN : N ≤ 8) (M : m_Mem) (hc : M 7 j 0 5 = nI N) : m_cl 30 [.ref (m_lc 7 j 0)] M = some (.inl (some (.int (f_wo M j N).1)), M) := by
  rw [e0_worstDigger_en]
  simp only [e0_worstDigger_0, e0_worstDigger_1, e0_worstDigger_2, e0_worstDigger_3, e0_worstDigger_4, e0_worstDigger_5, m_kill]
  exact s_wo_l j hj N hN M hc N 0 _ (by omega)
def f_lf (M : m_Mem) (j : Nat) : Nat → Int32
  | 0 => -1
  | n + 1 => if M 13 j n 1 = -1 then f_lf M j n else if f_lf M j n = -1 ∨ M 13 j n 0 < f_lf M j n then M 13 j n 0 else f_lf M j n
theorem s_lf_l (j : Nat) (hj : j < 9) (M : m_Mem) : ∀ (i n : Nat) (z : Option Value), n + i = 10 → m_E 31 4 [some (.ref (m_lc 7 j 0)), some (.int (f_lf M j n)), some (.int (nI n)), z] [] M = some (.inl (some (.int (f_lf M j 10))), M) := by
  have h7 := m_d7 hj
  have h9 := m_d9 hj
  intro i
  induction i with
  | zero =>
    intro n z hn
    have e : n = 10 := by omega
    subst e
    simp only [e0_leastFineness_4, e0_leastFineness_5, e0_leastFineness_7, e0_leastFineness_10, e0_leastFineness_11, e0_leastFineness_14, e0_leastFineness_15, e0_leastFineness_16, e0_leastFineness_17, e0_leastFineness_18, e0_leastFineness_21, e0_leastFineness_22, e0_leastFineness_25, e0_leastFineness_26, e0_leastFineness_27, e0_leastFineness_30, e0_leastFineness_31, e0_leastFineness_34, e0_leastFineness_35, e0_leastFineness_38, e0_leastFineness_39, e0_leastFineness_42, e0_leastFineness_43, e0_leastFineness_46, e0_leastFineness_49, e0_leastFineness_50, (by decide : (10 : Int32) ≤ nI 10), if_true]
  | succ i ih =>
    intro n z hn
    have hlt : n < 10 := by omega
    have h13 := m_d13 hj hlt
    have hle : ¬ (10 : Int32) ≤ nI n := nI_ge hlt (by decide)
    have ih2 := fun z => ih (n + 1) z (by omega)
    rw [e0_leastFineness_4]
    by_cases h1 : M 13 j n 1 = -1
    · have e : f_lf M j (n + 1) = f_lf M j n := if_pos h1
      rw [e] at ih2
      simp only [e0_leastFineness_5, e0_leastFineness_7, e0_leastFineness_10, e0_leastFineness_11, e0_leastFineness_14, e0_leastFineness_15, e0_leastFineness_16, e0_leastFineness_17, e0_leastFineness_18, e0_leastFineness_21, e0_leastFineness_22, e0_leastFineness_25, e0_leastFineness_26, e0_leastFineness_27, e0_leastFineness_30, e0_leastFineness_31, e0_leastFineness_34, e0_leastFineness_35, e0_leastFineness_38, e0_leastFineness_39, e0_leastFineness_42, e0_leastFineness_43, e0_leastFineness_46, h7, h9, h13, hlt, hle, h1, if_false, if_true, m_cE_i, m_cE_v, m_cE_ite, m_kill, nI_1]
      exact ih2 _
    · by_cases h2 : f_lf M j n = -1
      · have e : f_lf M j (n + 1) = M 13 j n 0 := (if_neg h1).trans (if_pos (Or.inl h2))
        rw [e] at ih2
        simp only [e0_leastFineness_5, e0_leastFineness_7, e0_leastFineness_10, e0_leastFineness_11, e0_leastFineness_14, e0_leastFineness_15, e0_leastFineness_16, e0_leastFineness_17, e0_leastFineness_18, e0_leastFineness_21, e0_leastFineness_22, e0_leastFineness_25, e0_leastFineness_26, e0_leastFineness_27, e0_leastFineness_30, e0_leastFineness_31, e0_leastFineness_34, e0_leastFineness_35, e0_leastFineness_38, e0_leastFineness_39, e0_leastFineness_42, e0_leastFineness_43, e0_leastFineness_46, h7, h9, h13, hlt, hle, h1, h2, if_false, if_true, m_cE_i, m_cE_v, m_cE_ite, m_kill, nI_1]
        exact ih2 _
      · by_cases h3 : M 13 j n 0 < f_lf M j n
        · have h4 : ¬ f_lf M j n ≤ M 13 j n 0 := Int32.not_le.mpr h3
          have e : f_lf M j (n + 1) = M 13 j n 0 := (if_neg h1).trans (if_pos (Or.inr h3))
          rw [e] at ih2
          simp only [e0_leastFineness_5, e0_leastFineness_7, e0_leastFineness_10, e0_leastFineness_11, e0_leastFineness_14, e0_leastFineness_15, e0_leastFineness_16, e0_leastFineness_17, e0_leastFineness_18, e0_leastFineness_21, e0_leastFineness_22, e0_leastFineness_25, e0_leastFineness_26, e0_leastFineness_27, e0_leastFineness_30, e0_leastFineness_31, e0_leastFineness_34, e0_leastFineness_35, e0_leastFineness_38, e0_leastFineness_39, e0_leastFineness_42, e0_leastFineness_43, e0_leastFineness_46, h7, h9, h13, hlt, hle, h1, h2, h4, if_false, if_true, m_cE_i, m_cE_v, m_cE_ite, m_kill, nI_1]
          exact ih2 _
        · have h4 : f_lf M j n ≤ M 13 j n 0 := Int32.not_lt.mp h3
          have e : f_lf M j (n + 1) = f_lf M j n := (if_neg h1).trans (if_neg (fun q => q.elim h2 h3))
          rw [e] at ih2
          simp only [e0_leastFineness_5, e0_leastFineness_7, e0_leastFineness_10, e0_leastFineness_11, e0_leastFineness_14, e0_leastFineness_15, e0_leastFineness_16, e0_leastFineness_17, e0_leastFineness_18, e0_leastFineness_21, e0_leastFineness_22, e0_leastFineness_25, e0_leastFineness_26, e0_leastFineness_27, e0_leastFineness_30, e0_leastFineness_31, e0_leastFineness_34, e0_leastFineness_35, e0_leastFineness_38, e0_leastFineness_39, e0_leastFineness_42, e0_leastFineness_43, e0_leastFineness_46, h7, h9, h13, hlt, hle, h1, h2, h4, if_false, if_true, m_cE_i, m_cE_v, m_cE_ite, m_kill, nI_1]
          exact ih2 _
theorem s_lf (j : Nat) (hj : j < 9) (M : m_Mem) : m_cl 31 [.ref (m_lc 7 j 0)] M = some (.inl (some (.int (f_lf M j 10))), M) := by
  rw [e0_leastFineness_en]
  simp only [e0_leastFineness_0, e0_leastFineness_1, e0_leastFineness_2, e0_leastFineness_3, m_kill]
  exact s_lf_l j hj M 10 0 _ rfl
def f_ss (M : m_Mem) (j : Nat) (w t s : Int32) : Int32 := if t + s ≤ 1000 ∧ f_price M j 1000 (t + s) ≤ w then t + s else t
theorem s_safe_l (j : Nat) (hj : j < 9) (M : m_Mem) (z w t s : Int32) (hs : 0 < s) : m_E 32 27 [some (.ref (m_lc 7 j 0)), some (.int z), some (.int w), some (.int t), some (.int s)] [] M = m_E 32 27 [some (.ref (m_lc 7 j 0)), some (.int z), some (.int w), some (.int (f_ss M j w t s)), some (.int (s / 2))] [] M := by
  have h7 := m_d7 hj
  have hs2 : ¬ s ≤ 0 := Int32.not_le.mpr hs
  unfold f_ss
  conv => lhs; rw [e0_greatestSafeFineness_27]
  by_cases h1 : t + s ≤ 1000
  · have h2 : ¬ 1000 < t + s := Int32.not_lt.mpr h1
    by_cases h3 : f_price M j 1000 (t + s) ≤ w
    · have h4 : ¬ w < f_price M j 1000 (t + s) := Int32.not_lt.mpr h3
      simp only [e0_greatestSafeFineness_29, e0_greatestSafeFineness_32, e0_greatestSafeFineness_33, e0_greatestSafeFineness_35, e0_greatestSafeFineness_36, e0_greatestSafeFineness_39, e0_greatestSafeFineness_42, e0_greatestSafeFineness_43, e0_greatestSafeFineness_46, e0_greatestSafeFineness_47, e0_greatestSafeFineness_49, e0_greatestSafeFineness_50, e0_greatestSafeFineness_53, e0_greatestSafeFineness_54, e0_greatestSafeFineness_57, e0_greatestSafeFineness_58, e0_greatestSafeFineness_60, e0_greatestSafeFineness_61, e0_greatestSafeFineness_62, e0_greatestSafeFineness_64, e0_greatestSafeFineness_65, e0_greatestSafeFineness_66, e0_greatestSafeFineness_68, h7, hs2, s_priceFor j hj, m_cE_i, m_cE_v, m_cE_ite, m_kill, h1, h2, h3, h4, (by decide : ¬ (2 : Int32) = 0), if_true, if_false, not_false_eq_true, and_self]
    · have h4 : w < f_price M j 1000 (t + s) := Int32.not_le.mp h3
      simp only [e0_greatestSafeFineness_29, e0_greatestSafeFineness_32, e0_greatestSafeFineness_33, e0_greatestSafeFineness_35, e0_greatestSafeFineness_36, e0_greatestSafeFineness_39, e0_greatestSafeFineness_42, e0_greatestSafeFineness_43, e0_greatestSafeFineness_46, e0_greatestSafeFineness_47, e0_greatestSafeFineness_49, e0_greatestSafeFineness_50, e0_greatestSafeFineness_53, e0_greatestSafeFineness_54, e0_greatestSafeFineness_57, e0_greatestSafeFineness_58, e0_greatestSafeFineness_60, e0_greatestSafeFineness_61, e0_greatestSafeFineness_62, e0_greatestSafeFineness_64, e0_greatestSafeFineness_65, e0_greatestSafeFineness_66, e0_greatestSafeFineness_68, h7, hs2, s_priceFor j hj, m_cE_i, m_cE_v, m_cE_ite, m_kill, h1, h2, h3, h4, (by decide : ¬ (2 : Int32) = 0), if_true, if_false, not_false_eq_true, and_false]
  · have h2 : 1000 < t + s := Int32.not_le.mp h1
    simp only [e0_greatestSafeFineness_29, e0_greatestSafeFineness_32, e0_greatestSafeFineness_33, e0_greatestSafeFineness_35, e0_greatestSafeFineness_36, e0_greatestSafeFineness_39, e0_greatestSafeFineness_42, e0_greatestSafeFineness_43, e0_greatestSafeFineness_46, e0_greatestSafeFineness_47, e0_greatestSafeFineness_49, e0_greatestSafeFineness_50, e0_greatestSafeFineness_53, e0_greatestSafeFineness_54, e0_greatestSafeFineness_57, e0_greatestSafeFineness_58, e0_greatestSafeFineness_60, e0_greatestSafeFineness_61, e0_greatestSafeFineness_62, e0_greatestSafeFineness_64, e0_greatestSafeFineness_65, e0_greatestSafeFineness_66, e0_greatestSafeFineness_68, h7, hs2, s_priceFor j hj, m_cE_i, m_cE_v, m_cE_ite, m_kill, h1, h2, (by decide : ¬ (2 : Int32) = 0), if_true, if_false, not_false_eq_true, false_and]
def f_st (M : m_Mem) (j : Nat) (w : Int32) : Int32 :=
  let s := f_ss M j w
  s (s (s (s (s (s (s (s (s 499 256) 128) 64) 32) 16) 8) 4) 2) 1
def f_sf (M : m_Mem) (j : Nat) : Int32 := if f_lf M j 10 = -1 then -1 else if 500 ≤ f_st M j (f_worth M j (f_lf M j 10)) then f_st M j (f_worth M j (f_lf M j 10)) else -1
theorem s_safe (j : Nat) (hj : j < 9) (M : m_Mem) : m_cl 32 [.ref (m_lc 7 j 0)] M = some (.inl (some (.int (f_sf M j))), M) := by
  have h7 := m_d7 hj
  rw [e0_greatestSafeFineness_en]
  unfold f_sf
  by_cases h1 : f_lf M j 10 = -1
  · simp only [e0_greatestSafeFineness_0, e0_greatestSafeFineness_1, e0_greatestSafeFineness_4, e0_greatestSafeFineness_5, e0_greatestSafeFineness_6, e0_greatestSafeFineness_7, e0_greatestSafeFineness_10, e0_greatestSafeFineness_11, h7, s_lf j hj, m_cE_i, m_cE_v, m_cE_ite, m_kill, h1, if_true, if_false]
  · simp only [e0_greatestSafeFineness_0, e0_greatestSafeFineness_1, e0_greatestSafeFineness_4, e0_greatestSafeFineness_5, e0_greatestSafeFineness_6, e0_greatestSafeFineness_7, e0_greatestSafeFineness_10, e0_greatestSafeFineness_11, e0_greatestSafeFineness_12, e0_greatestSafeFineness_13, e0_greatestSafeFineness_14, e0_greatestSafeFineness_17, e0_greatestSafeFineness_18, e0_greatestSafeFineness_21, e0_greatestSafeFineness_22, e0_greatestSafeFineness_25, h7, s_lf j hj, s_worth j hj, m_cE_i, m_cE_v, m_cE_ite, m_kill, h1, if_false]
    generalize f_worth M j (f_lf M j 10) = w
    have L := s_safe_l j hj M (f_lf M j 10) w
    rw [L _ 256 (by decide), show (256 : Int32) / 2 = 128 from by decide,
      L _ 128 (by decide), show (128 : Int32) / 2 = 64 from by decide, L _ 64 (by decide), show (64 : Int32) / 2 = 32 from by decide, L _ 32 (by decide), show (32 : Int32) / 2 = 16 from by decide, L _ 16 (by decide), show (16 : Int32) / 2 = 8 from by decide, L _ 8 (by decide), show (8 : Int32) / 2 = 4 from by decide, L _ 4 (by decide), show (4 : Int32) / 2 = 2 from by decide, L _ 2 (by decide), show (2 : Int32) / 2 = 1 from by decide, L _ 1 (by decide), show (1 : Int32) / 2 = 0 from by decide]
    show m_E _ 27 [_, _, _, some (.int (f_st M j w)), _] [] M = _
    generalize f_st M j w = t
    rw [e0_greatestSafeFineness_27]
    by_cases h1 : 500 ≤ t
    · have h2 : ¬ t < 500 := Int32.not_lt.mpr h1
      simp only [e0_greatestSafeFineness_29, e0_greatestSafeFineness_32, e0_greatestSafeFineness_33, e0_greatestSafeFineness_35, e0_greatestSafeFineness_36, e0_greatestSafeFineness_39, e0_greatestSafeFineness_42, e0_greatestSafeFineness_43, e0_greatestSafeFineness_46, e0_greatestSafeFineness_47, e0_greatestSafeFineness_49, e0_greatestSafeFineness_50, e0_greatestSafeFineness_53, e0_greatestSafeFineness_54, e0_greatestSafeFineness_57, e0_greatestSafeFineness_58, e0_greatestSafeFineness_60, e0_greatestSafeFineness_61, e0_greatestSafeFineness_62, e0_greatestSafeFineness_64, e0_greatestSafeFineness_65, e0_greatestSafeFineness_66, e0_greatestSafeFineness_68, e0_greatestSafeFineness_71, e0_greatestSafeFineness_72, e0_greatestSafeFineness_75, e0_greatestSafeFineness_78, e0_greatestSafeFineness_79, e0_greatestSafeFineness_82, e0_greatestSafeFineness_83, h1, h2, (by decide : (0 : Int32) ≤ 0), if_true, if_false, not_false_eq_true]
    · have h2 : t < 500 := Int32.not_le.mp h1
      simp only [e0_greatestSafeFineness_29, e0_greatestSafeFineness_32, e0_greatestSafeFineness_33, e0_greatestSafeFineness_35, e0_greatestSafeFineness_36, e0_greatestSafeFineness_39, e0_greatestSafeFineness_42, e0_greatestSafeFineness_43, e0_greatestSafeFineness_46, e0_greatestSafeFineness_47, e0_greatestSafeFineness_49, e0_greatestSafeFineness_50, e0_greatestSafeFineness_53, e0_greatestSafeFineness_54, e0_greatestSafeFineness_57, e0_greatestSafeFineness_58, e0_greatestSafeFineness_60, e0_greatestSafeFineness_61, e0_greatestSafeFineness_62, e0_greatestSafeFineness_64, e0_greatestSafeFineness_65, e0_greatestSafeFineness_66, e0_greatestSafeFineness_68, e0_greatestSafeFineness_71, e0_greatestSafeFineness_72, e0_greatestSafeFineness_75, e0_greatestSafeFineness_78, e0_greatestSafeFineness_79, e0_greatestSafeFineness_82, e0_greatestSafeFineness_83, h1, h2, (by decide : (0 : Int32) ≤ 0), if_true, if_false, not_false_eq_true]
def f_sh (M : m_Mem) (j N : Nat) : UInt64 := if 0 < f_tot M j 3 N then FP.ddiv (FP.i2d (f_tot M j 4 N)) (FP.i2d (f_tot M j 3 N)) else FP.dconst0
theorem s_share (j : Nat) (hj : j < 9) (N : Nat) (hN : N ≤ 8) (M : m_Mem) (hc : M 7 j 0 5 = nI N) (hn : 0 < f_tot M j 3 N → FP.ddiv (FP.i2d (f_tot M j 4 N)) (FP.i2d (f_tot M j 3 N)) &&& 0x7fffffffffffffff ≤ 0x7ff0000000000000) : m_cl 33 [.ref (m_lc 7 j 0)] M = some (.inl (some (.double (f_sh M j N))), M) := by
  have h7 := m_d7 hj
  have t3 : m_cl 26 [.ref (m_lc 7 j 0), .int 3] M = some (.inl (some (.int (f_tot M j 3 N))), M) := s_tot j hj 3 (by decide) N hN M hc
  have t4 : m_cl 26 [.ref (m_lc 7 j 0), .int 4] M = some (.inl (some (.int (f_tot M j 4 N))), M) := s_tot j hj 4 (by decide) N hN M hc
  rw [e0_shareOfFine_en]
  unfold f_sh
  by_cases h1 : 0 < f_tot M j 3 N
  · have h2 : ¬ f_tot M j 3 N ≤ 0 := Int32.not_le.mpr h1
    simp only [e0_shareOfFine_0, e0_shareOfFine_1, e0_shareOfFine_2, e0_shareOfFine_5, e0_shareOfFine_6, e0_shareOfFine_7, e0_shareOfFine_10, e0_shareOfFine_11, e0_shareOfFine_12, e0_shareOfFine_15, e0_shareOfFine_16, e0_shareOfFine_17, e0_shareOfFine_18, e0_shareOfFine_19, e0_shareOfFine_22, e0_shareOfFine_23, h7, t3, t4, m_cE_i, m_cE_v, m_cE_ite, m_kill, h1, h2, hn h1, if_true, if_false, not_false_eq_true]
  · have h2 : f_tot M j 3 N ≤ 0 := Int32.not_lt.mp h1
    simp only [e0_shareOfFine_0, e0_shareOfFine_1, e0_shareOfFine_2, e0_shareOfFine_5, e0_shareOfFine_6, e0_shareOfFine_7, e0_shareOfFine_10, e0_shareOfFine_11, e0_shareOfFine_12, e0_shareOfFine_15, e0_shareOfFine_16, e0_shareOfFine_17, e0_shareOfFine_18, e0_shareOfFine_19, e0_shareOfFine_22, e0_shareOfFine_23, h7, t3, m_cE_i, m_cE_v, m_cE_ite, m_kill, h1, h2, if_true, if_false, not_false_eq_true]
def f_h (h : Int64) (xs : Nat → Int32) : Nat → Int64
  | 0 => h
  | n + 1 => 31 * f_h h xs n + (xs n).toInt64
theorem s_hs_l (j : Nat) (hj : j < 9) (M : m_Mem) (h : Int64) : ∀ (i n : Nat), n + i = 5 → m_E 34 5 [some (.ref (m_lc 7 j 0)), some (.long h), none, some (.long (f_h h (M 11 j 0) n)), none, some (.int (nI n))] [] M = some (.inl (some (.long (f_h h (M 11 j 0) 5))), M) := by
  have h7 := m_d7 hj
  have h11 := m_d11 hj
  intro i
  induction i with
  | zero =>
    intro n hn
    have e : n = 5 := by omega
    subst e
    simp only [e0_hashSettings_5, e0_hashSettings_7, e0_hashSettings_8, e0_hashSettings_11, e0_hashSettings_14, e0_hashSettings_15, e0_hashSettings_16, e0_hashSettings_17, e0_hashSettings_20, e0_hashSettings_22, e0_hashSettings_23, e0_hashSettings_24, e0_hashSettings_25, e0_hashSettings_26, e0_hashSettings_29, e0_hashSettings_32, e0_hashSettings_33, (by decide : (5 : Int32) ≤ nI 5), if_true]
  | succ i ih =>
    intro n hn
    have hlt : n < 5 := by omega
    have hle : ¬ (5 : Int32) ≤ nI n := nI_ge hlt (by decide)
    have ih2 := ih (n + 1) (by omega)
    rw [e0_hashSettings_5]
    simp only [e0_hashSettings_7, e0_hashSettings_8, e0_hashSettings_11, e0_hashSettings_14, e0_hashSettings_15, e0_hashSettings_16, e0_hashSettings_17, e0_hashSettings_20, e0_hashSettings_22, e0_hashSettings_23, e0_hashSettings_24, e0_hashSettings_25, e0_hashSettings_26, e0_hashSettings_29, h7, h11, hlt, hle, if_false, m_cE_i, m_cE_v, m_cE_ite, m_kill, nI_1]
    exact ih2
theorem s_hs (j : Nat) (hj : j < 9) (M : m_Mem) (h : Int64) : m_cl 34 [.ref (m_lc 7 j 0), .long h] M = some (.inl (some (.long (f_h h (M 11 j 0) 5))), M) := by
  rw [e0_hashSettings_en]
  simp only [e0_hashSettings_0, e0_hashSettings_1, e0_hashSettings_2, e0_hashSettings_3, m_kill]
  exact s_hs_l j hj M h 5 0 rfl
