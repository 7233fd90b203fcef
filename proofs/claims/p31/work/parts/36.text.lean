/-! THE DAY'S TEXT. Its place is (5,0,0), its signs (6,0,0). -/
theorem m_k5 : m_dom 5 0 0 = true := rfl
theorem m_k6 : m_dom 6 0 0 = true := rfl
theorem m_nok_c {x : Int32} (h : m_nok 2 x = true) : m_nc x = x := (eq_of_beq h).symm
theorem m_nok32 : m_nok 2 32 = true := by decide
/-- the sign at a place -/
def f_sg (M : m_Mem) (n i : Nat) : Int32 := if i < n then M 6 0 0 i else 32
theorem s_signAt (n : Nat) (hn : n ≤ 60) (M : m_Mem) (hl : M 5 0 0 1 = nI n) (hC : ∀ i, i < 60 → m_nok 2 (M 6 0 0 i) = true) (i : Nat) (hi : i < 2 ^ 31) : m_cl 36 [.ref (m_lc 5 0 0), .int (nI i)] M = some (.inl (some (.int (f_sg M n i))), M) := by
  rw [e2_signAt_en]
  unfold f_sg
  have h0 : ¬ nI i < 0 := nI_pos hi
  by_cases h1 : i < n
  · have h2 : ¬ nI n ≤ nI i := nI_ge h1 (by omega)
    have h3 : i < 60 := by omega
    have h4 : ¬ (60 : Int32) ≤ nI i := nI_ge h3 (by decide)
    have hc := hC i h3
    simp only [e2_signAt_0, e2_signAt_1, e2_signAt_4, e2_signAt_5, e2_signAt_6, e2_signAt_9, e2_signAt_12, e2_signAt_13, e2_signAt_15, e2_signAt_18, e2_signAt_19, e2_signAt_22, e2_signAt_23, e2_signAt_24, e2_signAt_27, e2_signAt_29, m_k5, m_k6, hl, h0, h1, h2, h3, h4, hc, m_nok_c hc, if_true, if_false, not_false_eq_true]
  · have h2 : nI n ≤ nI i := nI_le (by omega) hi
    simp only [e2_signAt_0, e2_signAt_1, e2_signAt_4, e2_signAt_5, e2_signAt_6, e2_signAt_9, e2_signAt_12, e2_signAt_13, e2_signAt_15, e2_signAt_18, e2_signAt_19, e2_signAt_22, e2_signAt_23, e2_signAt_24, e2_signAt_27, e2_signAt_29, m_k5, hl, h0, h1, h2, m_nok32, if_true, if_false, not_false_eq_true]
def f_dg (c : Int32) : Int32 := if 48 ≤ c ∧ c ≤ 57 then 1 else 0
theorem s_isDigit (c : Int32) (M : m_Mem) : m_cl 37 [.int c] M = some (.inl (some (.int (f_dg c))), M) := by
  rw [e2_isDigit_en]
  unfold f_dg
  by_cases h1 : 48 ≤ c
  · have h2 : ¬ c < 48 := Int32.not_lt.mpr h1
    by_cases h3 : c ≤ 57
    · have h4 : ¬ 57 < c := Int32.not_lt.mpr h3
      simp only [e2_isDigit_0, e2_isDigit_1, e2_isDigit_3, e2_isDigit_6, e2_isDigit_7, e2_isDigit_9, e2_isDigit_12, e2_isDigit_13, e2_isDigit_16, e2_isDigit_17, h1, h2, h3, h4, if_true, if_false, not_false_eq_true, m_nok11, and_self]
    · have h4 : 57 < c := Int32.not_le.mp h3
      simp only [e2_isDigit_0, e2_isDigit_1, e2_isDigit_3, e2_isDigit_6, e2_isDigit_7, e2_isDigit_9, e2_isDigit_12, e2_isDigit_13, e2_isDigit_16, e2_isDigit_17, h1, h2, h3, h4, if_true, if_false, not_false_eq_true, m_nok10, and_false]
  · have h2 : c < 48 := Int32.not_le.mp h1
    simp only [e2_isDigit_0, e2_isDigit_1, e2_isDigit_3, e2_isDigit_6, e2_isDigit_7, e2_isDigit_9, e2_isDigit_12, e2_isDigit_13, e2_isDigit_16, e2_isDigit_17, h1, h2, if_true, if_false, not_false_eq_true, m_nok10, false_and]
/-- the state behind a sign -/
def f_bh (s c : Int32) : Int32 :=
  if s = 0 then if c = 109 ∨ c = 110 then 7 else if 48 ≤ c ∧ c ≤ 55 then 1 else -1
  else if s = 1 then if c = 119 ∨ c = 103 then 3 else if c = 99 then 2 else -1
  else if s = 2 then if f_dg c = 1 then 7 else -1
  else if s = 3 then if f_dg c = 1 ∧ ¬ c = 48 then 4 else -1
  else if c = 59 then 0 else if f_dg c = 1 ∧ s < 7 then s + 1 else -1
theorem f_dg_c (c : Int32) : f_dg c = 1 ∨ f_dg c = 0 := by
  unfold f_dg
  split
  · exact Or.inl rfl
  · exact Or.inr rfl
theorem s_behind (s c : Int32) (M : m_Mem) : m_cl 38 [.int s, .int c] M = some (.inl (some (.int (f_bh s c))), M) := by
  rw [e2_behind_en]
  unfold f_bh
  by_cases s0 : s = 0
  · subst s0
    by_cases c1 : c = 109
    · simp (config := { decide := true }) only [e2_behind_0, e2_behind_1, e2_behind_32, e2_behind_33, e2_behind_35, e2_behind_38, e2_behind_39, e2_behind_41, e2_behind_44, e2_behind_46, e2_behind_47, e2_behind_48, e2_behind_50, e2_behind_53, e2_behind_54, e2_behind_56, e2_behind_59, e2_behind_60, e2_behind_63, e2_behind_64, e2_behind_65, e2_behind_66, e2_behind_68, e2_behind_71, e2_behind_72, e2_behind_74, e2_behind_77, e2_behind_78, e2_behind_79, e2_behind_80, e2_behind_82, e2_behind_85, e2_behind_86, e2_behind_89, e2_behind_90, e2_behind_91, e2_behind_92, e2_behind_95, e2_behind_98, e2_behind_100, e2_behind_103, e2_behind_104, e2_behind_105, e2_behind_106, e2_behind_109, e2_behind_112, e2_behind_113, e2_behind_115, e2_behind_118, e2_behind_119, e2_behind_122, e2_behind_123, e2_behind_124, e2_behind_125, e2_behind_127, e2_behind_130, e2_behind_131, e2_behind_132, e2_behind_133, e2_behind_136, e2_behind_139, e2_behind_140, e2_behind_142, e2_behind_145, e2_behind_146, e2_behind_147, e2_behind_148, e2_behind_151, e2_behind_152, c1, if_true, if_false, not_false_eq_true, true_or]
    · by_cases c2 : c = 110
      · simp (config := { decide := true }) only [e2_behind_0, e2_behind_1, e2_behind_32, e2_behind_33, e2_behind_35, e2_behind_38, e2_behind_39, e2_behind_41, e2_behind_44, e2_behind_46, e2_behind_47, e2_behind_48, e2_behind_50, e2_behind_53, e2_behind_54, e2_behind_56, e2_behind_59, e2_behind_60, e2_behind_63, e2_behind_64, e2_behind_65, e2_behind_66, e2_behind_68, e2_behind_71, e2_behind_72, e2_behind_74, e2_behind_77, e2_behind_78, e2_behind_79, e2_behind_80, e2_behind_82, e2_behind_85, e2_behind_86, e2_behind_89, e2_behind_90, e2_behind_91, e2_behind_92, e2_behind_95, e2_behind_98, e2_behind_100, e2_behind_103, e2_behind_104, e2_behind_105, e2_behind_106, e2_behind_109, e2_behind_112, e2_behind_113, e2_behind_115, e2_behind_118, e2_behind_119, e2_behind_122, e2_behind_123, e2_behind_124, e2_behind_125, e2_behind_127, e2_behind_130, e2_behind_131, e2_behind_132, e2_behind_133, e2_behind_136, e2_behind_139, e2_behind_140, e2_behind_142, e2_behind_145, e2_behind_146, e2_behind_147, e2_behind_148, e2_behind_151, e2_behind_152, c2, if_true, if_false, not_false_eq_true, or_true]
      · by_cases c3 : 48 ≤ c
        · have c4 : ¬ c < 48 := Int32.not_lt.mpr c3
          by_cases c5 : c ≤ 55
          · have c6 : ¬ 55 < c := Int32.not_lt.mpr c5
            simp only [e2_behind_0, e2_behind_1, e2_behind_32, e2_behind_33, e2_behind_35, e2_behind_38, e2_behind_39, e2_behind_41, e2_behind_44, e2_behind_46, e2_behind_47, e2_behind_48, e2_behind_50, e2_behind_53, e2_behind_54, e2_behind_56, e2_behind_59, e2_behind_60, e2_behind_63, e2_behind_64, e2_behind_65, e2_behind_66, e2_behind_68, e2_behind_71, e2_behind_72, e2_behind_74, e2_behind_77, e2_behind_78, e2_behind_79, e2_behind_80, e2_behind_82, e2_behind_85, e2_behind_86, e2_behind_89, e2_behind_90, e2_behind_91, e2_behind_92, e2_behind_95, e2_behind_98, e2_behind_100, e2_behind_103, e2_behind_104, e2_behind_105, e2_behind_106, e2_behind_109, e2_behind_112, e2_behind_113, e2_behind_115, e2_behind_118, e2_behind_119, e2_behind_122, e2_behind_123, e2_behind_124, e2_behind_125, e2_behind_127, e2_behind_130, e2_behind_131, e2_behind_132, e2_behind_133, e2_behind_136, e2_behind_139, e2_behind_140, e2_behind_142, e2_behind_145, e2_behind_146, e2_behind_147, e2_behind_148, e2_behind_151, e2_behind_152, c1, c2, c3, c4, c5, c6, if_true, if_false, not_false_eq_true, or_self, and_self]
          · have c6 : 55 < c := Int32.not_le.mp c5
            simp only [e2_behind_0, e2_behind_1, e2_behind_32, e2_behind_33, e2_behind_35, e2_behind_38, e2_behind_39, e2_behind_41, e2_behind_44, e2_behind_46, e2_behind_47, e2_behind_48, e2_behind_50, e2_behind_53, e2_behind_54, e2_behind_56, e2_behind_59, e2_behind_60, e2_behind_63, e2_behind_64, e2_behind_65, e2_behind_66, e2_behind_68, e2_behind_71, e2_behind_72, e2_behind_74, e2_behind_77, e2_behind_78, e2_behind_79, e2_behind_80, e2_behind_82, e2_behind_85, e2_behind_86, e2_behind_89, e2_behind_90, e2_behind_91, e2_behind_92, e2_behind_95, e2_behind_98, e2_behind_100, e2_behind_103, e2_behind_104, e2_behind_105, e2_behind_106, e2_behind_109, e2_behind_112, e2_behind_113, e2_behind_115, e2_behind_118, e2_behind_119, e2_behind_122, e2_behind_123, e2_behind_124, e2_behind_125, e2_behind_127, e2_behind_130, e2_behind_131, e2_behind_132, e2_behind_133, e2_behind_136, e2_behind_139, e2_behind_140, e2_behind_142, e2_behind_145, e2_behind_146, e2_behind_147, e2_behind_148, e2_behind_151, e2_behind_152, c1, c2, c3, c4, c5, c6, if_true, if_false, not_false_eq_true, or_self, and_false]
        · have c4 : c < 48 := Int32.not_le.mp c3
          simp only [e2_behind_0, e2_behind_1, e2_behind_32, e2_behind_33, e2_behind_35, e2_behind_38, e2_behind_39, e2_behind_41, e2_behind_44, e2_behind_46, e2_behind_47, e2_behind_48, e2_behind_50, e2_behind_53, e2_behind_54, e2_behind_56, e2_behind_59, e2_behind_60, e2_behind_63, e2_behind_64, e2_behind_65, e2_behind_66, e2_behind_68, e2_behind_71, e2_behind_72, e2_behind_74, e2_behind_77, e2_behind_78, e2_behind_79, e2_behind_80, e2_behind_82, e2_behind_85, e2_behind_86, e2_behind_89, e2_behind_90, e2_behind_91, e2_behind_92, e2_behind_95, e2_behind_98, e2_behind_100, e2_behind_103, e2_behind_104, e2_behind_105, e2_behind_106, e2_behind_109, e2_behind_112, e2_behind_113, e2_behind_115, e2_behind_118, e2_behind_119, e2_behind_122, e2_behind_123, e2_behind_124, e2_behind_125, e2_behind_127, e2_behind_130, e2_behind_131, e2_behind_132, e2_behind_133, e2_behind_136, e2_behind_139, e2_behind_140, e2_behind_142, e2_behind_145, e2_behind_146, e2_behind_147, e2_behind_148, e2_behind_151, e2_behind_152, c1, c2, c3, c4, if_true, if_false, not_false_eq_true, or_self, false_and]
  · by_cases s1 : s = 1
    · subst s1
      by_cases c1 : c = 119
      · simp (config := { decide := true }) only [e2_behind_0, e2_behind_1, e2_behind_32, e2_behind_33, e2_behind_35, e2_behind_38, e2_behind_39, e2_behind_41, e2_behind_44, e2_behind_46, e2_behind_47, e2_behind_48, e2_behind_50, e2_behind_53, e2_behind_54, e2_behind_56, e2_behind_59, e2_behind_60, e2_behind_63, e2_behind_64, e2_behind_65, e2_behind_66, e2_behind_68, e2_behind_71, e2_behind_72, e2_behind_74, e2_behind_77, e2_behind_78, e2_behind_79, e2_behind_80, e2_behind_82, e2_behind_85, e2_behind_86, e2_behind_89, e2_behind_90, e2_behind_91, e2_behind_92, e2_behind_95, e2_behind_98, e2_behind_100, e2_behind_103, e2_behind_104, e2_behind_105, e2_behind_106, e2_behind_109, e2_behind_112, e2_behind_113, e2_behind_115, e2_behind_118, e2_behind_119, e2_behind_122, e2_behind_123, e2_behind_124, e2_behind_125, e2_behind_127, e2_behind_130, e2_behind_131, e2_behind_132, e2_behind_133, e2_behind_136, e2_behind_139, e2_behind_140, e2_behind_142, e2_behind_145, e2_behind_146, e2_behind_147, e2_behind_148, e2_behind_151, e2_behind_152, c1, if_true, if_false, not_false_eq_true, true_or]
      · by_cases c2 : c = 103
        · simp (config := { decide := true }) only [e2_behind_0, e2_behind_1, e2_behind_32, e2_behind_33, e2_behind_35, e2_behind_38, e2_behind_39, e2_behind_41, e2_behind_44, e2_behind_46, e2_behind_47, e2_behind_48, e2_behind_50, e2_behind_53, e2_behind_54, e2_behind_56, e2_behind_59, e2_behind_60, e2_behind_63, e2_behind_64, e2_behind_65, e2_behind_66, e2_behind_68, e2_behind_71, e2_behind_72, e2_behind_74, e2_behind_77, e2_behind_78, e2_behind_79, e2_behind_80, e2_behind_82, e2_behind_85, e2_behind_86, e2_behind_89, e2_behind_90, e2_behind_91, e2_behind_92, e2_behind_95, e2_behind_98, e2_behind_100, e2_behind_103, e2_behind_104, e2_behind_105, e2_behind_106, e2_behind_109, e2_behind_112, e2_behind_113, e2_behind_115, e2_behind_118, e2_behind_119, e2_behind_122, e2_behind_123, e2_behind_124, e2_behind_125, e2_behind_127, e2_behind_130, e2_behind_131, e2_behind_132, e2_behind_133, e2_behind_136, e2_behind_139, e2_behind_140, e2_behind_142, e2_behind_145, e2_behind_146, e2_behind_147, e2_behind_148, e2_behind_151, e2_behind_152, c2, if_true, if_false, not_false_eq_true, or_true]
        · by_cases c3 : c = 99
          · simp (config := { decide := true }) only [e2_behind_0, e2_behind_1, e2_behind_32, e2_behind_33, e2_behind_35, e2_behind_38, e2_behind_39, e2_behind_41, e2_behind_44, e2_behind_46, e2_behind_47, e2_behind_48, e2_behind_50, e2_behind_53, e2_behind_54, e2_behind_56, e2_behind_59, e2_behind_60, e2_behind_63, e2_behind_64, e2_behind_65, e2_behind_66, e2_behind_68, e2_behind_71, e2_behind_72, e2_behind_74, e2_behind_77, e2_behind_78, e2_behind_79, e2_behind_80, e2_behind_82, e2_behind_85, e2_behind_86, e2_behind_89, e2_behind_90, e2_behind_91, e2_behind_92, e2_behind_95, e2_behind_98, e2_behind_100, e2_behind_103, e2_behind_104, e2_behind_105, e2_behind_106, e2_behind_109, e2_behind_112, e2_behind_113, e2_behind_115, e2_behind_118, e2_behind_119, e2_behind_122, e2_behind_123, e2_behind_124, e2_behind_125, e2_behind_127, e2_behind_130, e2_behind_131, e2_behind_132, e2_behind_133, e2_behind_136, e2_behind_139, e2_behind_140, e2_behind_142, e2_behind_145, e2_behind_146, e2_behind_147, e2_behind_148, e2_behind_151, e2_behind_152, c3, if_true, if_false, not_false_eq_true]
          · simp only [e2_behind_0, e2_behind_1, e2_behind_32, e2_behind_33, e2_behind_35, e2_behind_38, e2_behind_39, e2_behind_41, e2_behind_44, e2_behind_46, e2_behind_47, e2_behind_48, e2_behind_50, e2_behind_53, e2_behind_54, e2_behind_56, e2_behind_59, e2_behind_60, e2_behind_63, e2_behind_64, e2_behind_65, e2_behind_66, e2_behind_68, e2_behind_71, e2_behind_72, e2_behind_74, e2_behind_77, e2_behind_78, e2_behind_79, e2_behind_80, e2_behind_82, e2_behind_85, e2_behind_86, e2_behind_89, e2_behind_90, e2_behind_91, e2_behind_92, e2_behind_95, e2_behind_98, e2_behind_100, e2_behind_103, e2_behind_104, e2_behind_105, e2_behind_106, e2_behind_109, e2_behind_112, e2_behind_113, e2_behind_115, e2_behind_118, e2_behind_119, e2_behind_122, e2_behind_123, e2_behind_124, e2_behind_125, e2_behind_127, e2_behind_130, e2_behind_131, e2_behind_132, e2_behind_133, e2_behind_136, e2_behind_139, e2_behind_140, e2_behind_142, e2_behind_145, e2_behind_146, e2_behind_147, e2_behind_148, e2_behind_151, e2_behind_152, s0, c1, c2, c3, if_true, if_false, not_false_eq_true, or_self]
    · by_cases s2 : s = 2
      · subst s2
        rcases f_dg_c c with hd | hd
        · simp (config := { decide := true }) only [e2_behind_0, e2_behind_1, e2_behind_32, e2_behind_33, e2_behind_35, e2_behind_38, e2_behind_39, e2_behind_41, e2_behind_44, e2_behind_46, e2_behind_47, e2_behind_48, e2_behind_50, e2_behind_53, e2_behind_54, e2_behind_56, e2_behind_59, e2_behind_60, e2_behind_63, e2_behind_64, e2_behind_65, e2_behind_66, e2_behind_68, e2_behind_71, e2_behind_72, e2_behind_74, e2_behind_77, e2_behind_78, e2_behind_79, e2_behind_80, e2_behind_82, e2_behind_85, e2_behind_86, e2_behind_89, e2_behind_90, e2_behind_91, e2_behind_92, e2_behind_95, e2_behind_98, e2_behind_100, e2_behind_103, e2_behind_104, e2_behind_105, e2_behind_106, e2_behind_109, e2_behind_112, e2_behind_113, e2_behind_115, e2_behind_118, e2_behind_119, e2_behind_122, e2_behind_123, e2_behind_124, e2_behind_125, e2_behind_127, e2_behind_130, e2_behind_131, e2_behind_132, e2_behind_133, e2_behind_136, e2_behind_139, e2_behind_140, e2_behind_142, e2_behind_145, e2_behind_146, e2_behind_147, e2_behind_148, e2_behind_151, e2_behind_152, s_isDigit, m_cE_i, m_cE_v, m_cE_ite, m_kill, hd, if_true, if_false, not_false_eq_true]
        · simp (config := { decide := true }) only [e2_behind_0, e2_behind_1, e2_behind_32, e2_behind_33, e2_behind_35, e2_behind_38, e2_behind_39, e2_behind_41, e2_behind_44, e2_behind_46, e2_behind_47, e2_behind_48, e2_behind_50, e2_behind_53, e2_behind_54, e2_behind_56, e2_behind_59, e2_behind_60, e2_behind_63, e2_behind_64, e2_behind_65, e2_behind_66, e2_behind_68, e2_behind_71, e2_behind_72, e2_behind_74, e2_behind_77, e2_behind_78, e2_behind_79, e2_behind_80, e2_behind_82, e2_behind_85, e2_behind_86, e2_behind_89, e2_behind_90, e2_behind_91, e2_behind_92, e2_behind_95, e2_behind_98, e2_behind_100, e2_behind_103, e2_behind_104, e2_behind_105, e2_behind_106, e2_behind_109, e2_behind_112, e2_behind_113, e2_behind_115, e2_behind_118, e2_behind_119, e2_behind_122, e2_behind_123, e2_behind_124, e2_behind_125, e2_behind_127, e2_behind_130, e2_behind_131, e2_behind_132, e2_behind_133, e2_behind_136, e2_behind_139, e2_behind_140, e2_behind_142, e2_behind_145, e2_behind_146, e2_behind_147, e2_behind_148, e2_behind_151, e2_behind_152, s_isDigit, m_cE_i, m_cE_v, m_cE_ite, m_kill, hd, if_true, if_false, not_false_eq_true]
      · by_cases s3 : s = 3
        · subst s3
          rcases f_dg_c c with hd | hd
          · by_cases c1 : c = 48
            · simp (config := { decide := true }) only [e2_behind_0, e2_behind_1, e2_behind_32, e2_behind_33, e2_behind_35, e2_behind_38, e2_behind_39, e2_behind_41, e2_behind_44, e2_behind_46, e2_behind_47, e2_behind_48, e2_behind_50, e2_behind_53, e2_behind_54, e2_behind_56, e2_behind_59, e2_behind_60, e2_behind_63, e2_behind_64, e2_behind_65, e2_behind_66, e2_behind_68, e2_behind_71, e2_behind_72, e2_behind_74, e2_behind_77, e2_behind_78, e2_behind_79, e2_behind_80, e2_behind_82, e2_behind_85, e2_behind_86, e2_behind_89, e2_behind_90, e2_behind_91, e2_behind_92, e2_behind_95, e2_behind_98, e2_behind_100, e2_behind_103, e2_behind_104, e2_behind_105, e2_behind_106, e2_behind_109, e2_behind_112, e2_behind_113, e2_behind_115, e2_behind_118, e2_behind_119, e2_behind_122, e2_behind_123, e2_behind_124, e2_behind_125, e2_behind_127, e2_behind_130, e2_behind_131, e2_behind_132, e2_behind_133, e2_behind_136, e2_behind_139, e2_behind_140, e2_behind_142, e2_behind_145, e2_behind_146, e2_behind_147, e2_behind_148, e2_behind_151, e2_behind_152, s_isDigit, m_cE_i, m_cE_v, m_cE_ite, m_kill, hd, c1, if_true, if_false, not_false_eq_true, and_false]
            · simp (config := { decide := true }) only [e2_behind_0, e2_behind_1, e2_behind_32, e2_behind_33, e2_behind_35, e2_behind_38, e2_behind_39, e2_behind_41, e2_behind_44, e2_behind_46, e2_behind_47, e2_behind_48, e2_behind_50, e2_behind_53, e2_behind_54, e2_behind_56, e2_behind_59, e2_behind_60, e2_behind_63, e2_behind_64, e2_behind_65, e2_behind_66, e2_behind_68, e2_behind_71, e2_behind_72, e2_behind_74, e2_behind_77, e2_behind_78, e2_behind_79, e2_behind_80, e2_behind_82, e2_behind_85, e2_behind_86, e2_behind_89, e2_behind_90, e2_behind_91, e2_behind_92, e2_behind_95, e2_behind_98, e2_behind_100, e2_behind_103, e2_behind_104, e2_behind_105, e2_behind_106, e2_behind_109, e2_behind_112, e2_behind_113, e2_behind_115, e2_behind_118, e2_behind_119, e2_behind_122, e2_behind_123, e2_behind_124, e2_behind_125, e2_behind_127, e2_behind_130, e2_behind_131, e2_behind_132, e2_behind_133, e2_behind_136, e2_behind_139, e2_behind_140, e2_behind_142, e2_behind_145, e2_behind_146, e2_behind_147, e2_behind_148, e2_behind_151, e2_behind_152, s_isDigit, m_cE_i, m_cE_v, m_cE_ite, m_kill, hd, c1, if_true, if_false, not_false_eq_true, and_true]
          · simp (config := { decide := true }) only [e2_behind_0, e2_behind_1, e2_behind_32, e2_behind_33, e2_behind_35, e2_behind_38, e2_behind_39, e2_behind_41, e2_behind_44, e2_behind_46, e2_behind_47, e2_behind_48, e2_behind_50, e2_behind_53, e2_behind_54, e2_behind_56, e2_behind_59, e2_behind_60, e2_behind_63, e2_behind_64, e2_behind_65, e2_behind_66, e2_behind_68, e2_behind_71, e2_behind_72, e2_behind_74, e2_behind_77, e2_behind_78, e2_behind_79, e2_behind_80, e2_behind_82, e2_behind_85, e2_behind_86, e2_behind_89, e2_behind_90, e2_behind_91, e2_behind_92, e2_behind_95, e2_behind_98, e2_behind_100, e2_behind_103, e2_behind_104, e2_behind_105, e2_behind_106, e2_behind_109, e2_behind_112, e2_behind_113, e2_behind_115, e2_behind_118, e2_behind_119, e2_behind_122, e2_behind_123, e2_behind_124, e2_behind_125, e2_behind_127, e2_behind_130, e2_behind_131, e2_behind_132, e2_behind_133, e2_behind_136, e2_behind_139, e2_behind_140, e2_behind_142, e2_behind_145, e2_behind_146, e2_behind_147, e2_behind_148, e2_behind_151, e2_behind_152, s_isDigit, m_cE_i, m_cE_v, m_cE_ite, m_kill, hd, if_true, if_false, not_false_eq_true, false_and]
        · by_cases c1 : c = 59
          · simp only [e2_behind_0, e2_behind_1, e2_behind_32, e2_behind_33, e2_behind_35, e2_behind_38, e2_behind_39, e2_behind_41, e2_behind_44, e2_behind_46, e2_behind_47, e2_behind_48, e2_behind_50, e2_behind_53, e2_behind_54, e2_behind_56, e2_behind_59, e2_behind_60, e2_behind_63, e2_behind_64, e2_behind_65, e2_behind_66, e2_behind_68, e2_behind_71, e2_behind_72, e2_behind_74, e2_behind_77, e2_behind_78, e2_behind_79, e2_behind_80, e2_behind_82, e2_behind_85, e2_behind_86, e2_behind_89, e2_behind_90, e2_behind_91, e2_behind_92, e2_behind_95, e2_behind_98, e2_behind_100, e2_behind_103, e2_behind_104, e2_behind_105, e2_behind_106, e2_behind_109, e2_behind_112, e2_behind_113, e2_behind_115, e2_behind_118, e2_behind_119, e2_behind_122, e2_behind_123, e2_behind_124, e2_behind_125, e2_behind_127, e2_behind_130, e2_behind_131, e2_behind_132, e2_behind_133, e2_behind_136, e2_behind_139, e2_behind_140, e2_behind_142, e2_behind_145, e2_behind_146, e2_behind_147, e2_behind_148, e2_behind_151, e2_behind_152, s0, s1, s2, s3, c1, if_true, if_false, not_false_eq_true]
          · rcases f_dg_c c with hd | hd
            · by_cases h7 : s < 7
              · have h8 : ¬ 7 ≤ s := Int32.not_le.mpr h7
                simp only [e2_behind_0, e2_behind_1, e2_behind_32, e2_behind_33, e2_behind_35, e2_behind_38, e2_behind_39, e2_behind_41, e2_behind_44, e2_behind_46, e2_behind_47, e2_behind_48, e2_behind_50, e2_behind_53, e2_behind_54, e2_behind_56, e2_behind_59, e2_behind_60, e2_behind_63, e2_behind_64, e2_behind_65, e2_behind_66, e2_behind_68, e2_behind_71, e2_behind_72, e2_behind_74, e2_behind_77, e2_behind_78, e2_behind_79, e2_behind_80, e2_behind_82, e2_behind_85, e2_behind_86, e2_behind_89, e2_behind_90, e2_behind_91, e2_behind_92, e2_behind_95, e2_behind_98, e2_behind_100, e2_behind_103, e2_behind_104, e2_behind_105, e2_behind_106, e2_behind_109, e2_behind_112, e2_behind_113, e2_behind_115, e2_behind_118, e2_behind_119, e2_behind_122, e2_behind_123, e2_behind_124, e2_behind_125, e2_behind_127, e2_behind_130, e2_behind_131, e2_behind_132, e2_behind_133, e2_behind_136, e2_behind_139, e2_behind_140, e2_behind_142, e2_behind_145, e2_behind_146, e2_behind_147, e2_behind_148, e2_behind_151, e2_behind_152, s_isDigit, m_cE_i, m_cE_v, m_cE_ite, m_kill, s0, s1, s2, s3, hd, c1, h7, h8, (by decide : ¬ (1 : Int32) = 0), if_true, if_false, not_false_eq_true, and_self]
              · have h8 : 7 ≤ s := Int32.not_lt.mp h7
                simp only [e2_behind_0, e2_behind_1, e2_behind_32, e2_behind_33, e2_behind_35, e2_behind_38, e2_behind_39, e2_behind_41, e2_behind_44, e2_behind_46, e2_behind_47, e2_behind_48, e2_behind_50, e2_behind_53, e2_behind_54, e2_behind_56, e2_behind_59, e2_behind_60, e2_behind_63, e2_behind_64, e2_behind_65, e2_behind_66, e2_behind_68, e2_behind_71, e2_behind_72, e2_behind_74, e2_behind_77, e2_behind_78, e2_behind_79, e2_behind_80, e2_behind_82, e2_behind_85, e2_behind_86, e2_behind_89, e2_behind_90, e2_behind_91, e2_behind_92, e2_behind_95, e2_behind_98, e2_behind_100, e2_behind_103, e2_behind_104, e2_behind_105, e2_behind_106, e2_behind_109, e2_behind_112, e2_behind_113, e2_behind_115, e2_behind_118, e2_behind_119, e2_behind_122, e2_behind_123, e2_behind_124, e2_behind_125, e2_behind_127, e2_behind_130, e2_behind_131, e2_behind_132, e2_behind_133, e2_behind_136, e2_behind_139, e2_behind_140, e2_behind_142, e2_behind_145, e2_behind_146, e2_behind_147, e2_behind_148, e2_behind_151, e2_behind_152, s_isDigit, m_cE_i, m_cE_v, m_cE_ite, m_kill, s0, s1, s2, s3, hd, c1, h7, h8, (by decide : ¬ (1 : Int32) = 0), if_true, if_false, not_false_eq_true, and_false]
            · simp only [e2_behind_0, e2_behind_1, e2_behind_32, e2_behind_33, e2_behind_35, e2_behind_38, e2_behind_39, e2_behind_41, e2_behind_44, e2_behind_46, e2_behind_47, e2_behind_48, e2_behind_50, e2_behind_53, e2_behind_54, e2_behind_56, e2_behind_59, e2_behind_60, e2_behind_63, e2_behind_64, e2_behind_65, e2_behind_66, e2_behind_68, e2_behind_71, e2_behind_72, e2_behind_74, e2_behind_77, e2_behind_78, e2_behind_79, e2_behind_80, e2_behind_82, e2_behind_85, e2_behind_86, e2_behind_89, e2_behind_90, e2_behind_91, e2_behind_92, e2_behind_95, e2_behind_98, e2_behind_100, e2_behind_103, e2_behind_104, e2_behind_105, e2_behind_106, e2_behind_109, e2_behind_112, e2_behind_113, e2_behind_115, e2_behind_118, e2_behind_119, e2_behind_122, e2_behind_123, e2_behind_124, e2_behind_125, e2_behind_127, e2_behind_130, e2_behind_131, e2_behind_132, e2_behind_133, e2_behind_136, e2_behind_139, e2_behind_140, e2_behind_142, e2_behind_145, e2_behind_146, e2_behind_147, e2_behind_148, e2_behind_151, e2_behind_152, s_isDigit, m_cE_i, m_cE_v, m_cE_ite, m_kill, s0, s1, s2, s3, hd, c1, (by decide : ¬ (0 : Int32) = 1), if_true, if_false, not_false_eq_true, false_and]
/-- the state behind the first n signs -/
def f_stt (t : Nat → Int32) : Nat → Int32
  | 0 => 0
  | n + 1 => if f_stt t n = -1 then -1 else f_bh (f_stt t n) (t n)
/-- the first place that leads to no state, among i .. i + k - 1, or i + k -/
def f_ei (t : Nat → Int32) : Nat → Nat → Nat
  | 0, i => i
  | k + 1, i => if f_stt t (i + 1) = -1 then i else f_ei t k (i + 1)
theorem s_day_l (n : Nat) (hn : n ≤ 60) (M : m_Mem) (hl : M 5 0 0 1 = nI n) (hC : ∀ i, i < 60 → m_nok 2 (M 6 0 0 i) = true) : ∀ (k i : Nat), i + k = n → m_E 39 4 [some (.ref (m_lc 5 0 0)), some (.int (f_stt (M 6 0 0) i)), some (.int (nI i))] [] M = some (.inl (some (.int (if 4 ≤ f_stt (M 6 0 0) n then 1 else 0))), M) := by
  have key : ∀ x : Int32, (if x < 4 then m_E 39 42 [some (.ref (m_lc 5 0 0)), some (.int x), some (.int 0)] [] M else m_E 39 38 [some (.ref (m_lc 5 0 0)), some (.int x), some (.int 0)] [] M) = (if x < 4 then m_E 39 42 [some (.ref (m_lc 5 0 0)), some (.int x), some (.int 0)] [] M else m_E 39 38 [some (.ref (m_lc 5 0 0)), some (.int x), some (.int 0)] [] M) := fun _ => rfl
  have fin : ∀ (x : Int32) (z : Option Value), m_E 39 33 [some (.ref (m_lc 5 0 0)), some (.int x), z] [] M = some (.inl (some (.int (if 4 ≤ x then 1 else 0))), M) := by
    intro x z
    by_cases h1 : 4 ≤ x
    · have h2 : ¬ x < 4 := Int32.not_lt.mpr h1
      simp only [e2_isDay_33, e2_isDay_34, e2_isDay_35, e2_isDay_38, e2_isDay_39, e2_isDay_42, e2_isDay_43, h1, h2, if_true, if_false, not_false_eq_true, m_nok11]
    · have h2 : x < 4 := Int32.not_le.mp h1
      simp only [e2_isDay_33, e2_isDay_34, e2_isDay_35, e2_isDay_38, e2_isDay_39, e2_isDay_42, e2_isDay_43, h1, h2, if_true, if_false, not_false_eq_true, m_nok10]
  have dead : ∀ i k, f_stt (M 6 0 0) i = -1 → f_stt (M 6 0 0) (i + k) = -1 := by
    intro i k h
    induction k with
    | zero => exact h
    | succ k ih => exact if_pos ih
  intro k
  induction k with
  | zero =>
    intro i hi
    have e : i = n := by omega
    subst e
    have hle : nI i ≤ nI i := nI_le (Nat.le_refl _) (by omega)
    rw [e2_isDay_4]
    simp only [e2_isDay_5, e2_isDay_6, e2_isDay_9, m_k5, hl, hle, if_true]
    exact fin _ _
  | succ k ih =>
    intro i hi
    have hlt : i < n := by omega
    have hle : ¬ nI n ≤ nI i := nI_ge hlt (by omega)
    have ih2 := ih (i + 1) (by omega)
    have hsg := s_signAt n hn M hl hC i (by omega)
    have e : f_sg M n i = M 6 0 0 i := if_pos hlt
    rw [e] at hsg
    rw [e2_isDay_4]
    by_cases hs : f_stt (M 6 0 0) i = -1
    · have hd := dead i (k + 1) hs
      rw [hi] at hd
      simp only [e2_isDay_5, e2_isDay_6, e2_isDay_9, e2_isDay_12, e2_isDay_13, e2_isDay_14, m_k5, hl, hle, hs, if_true, if_false]
      rw [fin, hd]
    · have es : f_stt (M 6 0 0) (i + 1) = f_bh (f_stt (M 6 0 0) i) (M 6 0 0 i) := if_neg hs
      rw [es] at ih2
      simp only [e2_isDay_5, e2_isDay_6, e2_isDay_9, e2_isDay_12, e2_isDay_13, e2_isDay_14, e2_isDay_17, e2_isDay_18, e2_isDay_19, e2_isDay_20, e2_isDay_23, e2_isDay_26, e2_isDay_27, e2_isDay_30, m_k5, hl, hle, hs, hsg, s_behind, m_cE_i, m_cE_v, m_cE_ite, m_kill, if_false, nI_1]
      exact ih2
theorem s_day (n : Nat) (hn : n ≤ 60) (M : m_Mem) (hl : M 5 0 0 1 = nI n) (hC : ∀ i, i < 60 → m_nok 2 (M 6 0 0 i) = true) : m_cl 39 [.ref (m_lc 5 0 0)] M = some (.inl (some (.int (if 4 ≤ f_stt (M 6 0 0) n then 1 else 0))), M) := by
  rw [e2_isDay_en]
  simp only [e2_isDay_0, e2_isDay_1, e2_isDay_2, e2_isDay_3, m_kill]
  exact s_day_l n hn M hl hC n 0 (by omega)
theorem s_rfs (M : m_Mem) : m_cl 40 [.ref (m_lc 5 0 0)] M = some (.inl none, m_set M 5 0 0 2 0) := by
  rw [e2_readFromStart_en]
  simp only [e2_readFromStart_0, e2_readFromStart_1, e2_readFromStart_2, e2_readFromStart_5, m_k5]
theorem s_put (n : Nat) (hn : n < 60) (M : m_Mem) (hl : M 5 0 0 1 = nI n) (c : Int32) (hc : m_nc c = c) : m_cl 35 [.ref (m_lc 5 0 0), .int c] M = some (.inl none, m_set (m_set M 6 0 0 n c) 5 0 0 1 (nI (n + 1))) := by
  have h0 : ¬ nI n < 0 := nI_pos (by omega)
  have h4 : ¬ (60 : Int32) ≤ nI n := nI_ge hn (by decide)
  have e : m_set M 6 0 0 n c 5 0 0 1 = nI n := by rw [m_set_n (fun q => absurd q.1 (by decide))]; exact hl
  rw [e2_put_en]
  simp only [e2_put_0, e2_put_1, e2_put_4, e2_put_7, e2_put_8, e2_put_11, e2_put_13, e2_put_16, e2_put_17, e2_put_20, e2_put_21, e2_put_24, e2_put_25, e2_put_26, e2_put_27, e2_put_28, e2_put_31, e2_put_32, e2_put_33, e2_put_36, m_k5, m_k6, hl, h0, h4, hn, hc, e, nI_1, if_true, if_false, not_false_eq_true]
