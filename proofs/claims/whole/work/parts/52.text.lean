/-! THE MODEL's reading of one order. -/
def k_o1 (M : m_Mem) (b a : Nat) : m_Mem := m_set (m_set M 21 0 0 (b + 1) (M 20 0 0 a - 48)) 15 0 0 8 (nI (a + 1))
def k_o2 (M : m_Mem) (b a : Nat) : m_Mem := m_set (m_set (k_o1 M b a) 21 0 0 b (M 20 0 0 (a + 1))) 15 0 0 8 (nI (a + 1 + 1))
def k_or (M : m_Mem) (L b a : Nat) : Int32 × m_Mem :=
  if k_at (M 20 0 0) L a 109 110 = 1 then (1, m_set (m_set M 21 0 0 b (M 20 0 0 a)) 15 0 0 8 (nI (a + 1)))
  else if k_at (M 20 0 0) L a 48 55 = 0 then (0, M)
  else if k_at (M 20 0 0) L (a + 1) 99 99 = 1 then
    (k_at (M 20 0 0) L (a + 1 + 1) 48 57, m_set (m_set (k_o2 M b a) 21 0 0 (b + 2) (if k_at (M 20 0 0) L (a + 1 + 1) 48 57 = 1 then M 20 0 0 (a + 1 + 1) - 48 else 0)) 15 0 0 8 (if k_at (M 20 0 0) L (a + 1 + 1) 48 57 = 1 then nI (a + 1 + 1) + 1 else nI (a + 1 + 1) + 0))
  else if k_at (M 20 0 0) L (a + 1) 119 119 = 1 ∨ k_at (M 20 0 0) L (a + 1) 103 103 = 1 then
    (k_at (M 20 0 0) L (a + 1 + 1) 49 57, m_set (m_set (k_o2 M b a) 15 0 0 8 (nI (k_nu (M 20 0 0) L (a + 1 + 1)).1)) 21 0 0 (b + 2) (k_nu (M 20 0 0) L (a + 1 + 1)).2)
  else (0, k_o1 M b a)
section TEXT2
variable {M : m_Mem}
theorem g_order (L a n : Nat) (hL : L ≤ 60) (ha : a ≤ L) (hn : n ≤ 30) (h7 : M 15 0 0 7 = nI L) (h8 : M 15 0 0 8 = nI a) (h9 : M 15 0 0 9 = nI n) : m_cl 149 [.ref (m_lc 15 0 0)] M =
    some (.inl (some (.int (k_or M L (3 * n) a).1)), (k_or M L (3 * n) a).2) := by
  have hb0 : 3 * n < 93 := by omega
  have hb1 : 3 * n + 1 < 93 := by omega
  have hb2 : 3 * n + 2 < 93 := by omega
  have i1 : nI (3 * n) + 1 = nI (3 * n + 1) := nI_add _ 1
  have i2 : nI (3 * n) + 2 = nI (3 * n + 2) := nI_add _ 2
  have A : ∀ lo hi, m_cl 147 [.ref (m_lc 15 0 0), .int lo, .int hi] M = some (.inl (some (.int (k_at (M 20 0 0) L a lo hi))), M) := fun lo hi => g_isAt L a hL (by omega) h7 h8 lo hi
  have s20 : ∀ (x : Int32), m_set M 21 0 0 (3 * n) x 15 0 0 8 = nI a := fun x => by rw [m_set_n (fun q => absurd q.1 (by decide))]; exact h8
  have s21 : ∀ (x : Int32), m_set M 21 0 0 (3 * n + 1) x 15 0 0 8 = nI a := fun x => by rw [m_set_n (fun q => absurd q.1 (by decide))]; exact h8
  rw [e6_isOrder_en]
  unfold k_or
  rcases k_at_c (M 20 0 0) L a 109 110 with c1 | c1
  · have h60 : a < 60 := by have := k_at_lt c1; omega
    rw [if_pos c1]
    simp only [e6_isOrder_0, e6_isOrder_1, e6_isOrder_2, e6_isOrder_5, e6_isOrder_6, e6_isOrder_7, e6_isOrder_8, e6_isOrder_10, e6_isOrder_12, e6_isOrder_15, e6_isOrder_18, e6_isOrder_19, e6_isOrder_22, e6_isOrder_23, e6_isOrder_24, e6_isOrder_27, e6_isOrder_28, e6_isOrder_31, e6_isOrder_32, e6_isOrder_33, e6_isOrder_34, e6_isOrder_35, e6_isOrder_38, e6_isOrder_39, e6_isOrder_40, e6_isOrder_43, e6_isOrder_44, e6_isOrder_45, e6_isOrder_46, e6_isOrder_48, e6_isOrder_50, e6_isOrder_53, e6_isOrder_56, e6_isOrder_57, e6_isOrder_58, e6_isOrder_59, e6_isOrder_62, e6_isOrder_63, e6_isOrder_64, e6_isOrder_65, e6_isOrder_66, e6_isOrder_69, e6_isOrder_70, e6_isOrder_73, e6_isOrder_74, e6_isOrder_76, e6_isOrder_77, e6_isOrder_78, e6_isOrder_79, e6_isOrder_80, e6_isOrder_83, e6_isOrder_84, e6_isOrder_85, e6_isOrder_88, e6_isOrder_89, e6_isOrder_91, e6_isOrder_93, e6_isOrder_96, e6_isOrder_97, e6_isOrder_98, e6_isOrder_101, e6_isOrder_102, e6_isOrder_104, e6_isOrder_106, e6_isOrder_109, e6_isOrder_112, e6_isOrder_113, e6_isOrder_115, e6_isOrder_117, e6_isOrder_120, e6_isOrder_123, e6_isOrder_124, e6_isOrder_125, e6_isOrder_126, e6_isOrder_129, e6_isOrder_130, e6_isOrder_131, e6_isOrder_134, e6_isOrder_135, e6_isOrder_138, e6_isOrder_139, e6_isOrder_140, e6_isOrder_141, e6_isOrder_142, e6_isOrder_145, e6_isOrder_146, e6_isOrder_147, e6_isOrder_150, e6_isOrder_151, e6_isOrder_154, e6_isOrder_155, e6_isOrder_156, e6_isOrder_159, e6_isOrder_160, e6_isOrder_161, e6_isOrder_163, e6_isOrder_165, e6_isOrder_168, e6_isOrder_169, e6_isOrder_170, e6_isOrder_173, e6_isOrder_174, e6_isOrder_175, e6_isOrder_176, e6_isOrder_177, e6_isOrder_180, e6_isOrder_181, e6_isOrder_184, e6_isOrder_185, e6_isOrder_188, e6_isOrder_189, e6_isOrder_191, e6_isOrder_192, e6_isOrder_195, e6_isOrder_196, e6_isOrder_197, e6_isOrder_198, e6_isOrder_199, e6_isOrder_202, e6_isOrder_203, e6_isOrder_206, e6_isOrder_207, e6_isOrder_210, e6_isOrder_211, e6_isOrder_212, e6_isOrder_215, e6_isOrder_216, h9, g_x3, A, c1, h8, h60, hb0, s20, nI_1, m_nok11, m_kill, m_cE_i, m_cE_v, m_cE_ite, m_kill, (by decide : ¬ (1 : Int32) = 0), ne_eq, if_true, if_false, not_false_eq_true]
  · rw [if_neg (by rw [c1]; decide)]
    rcases k_at_c (M 20 0 0) L a 48 55 with c2 | c2
    · have hlt := k_at_lt c2
      have h60 : a < 60 := by omega
      rw [if_neg (by rw [c2]; decide)]
      simp only [e6_isOrder_0, e6_isOrder_1, e6_isOrder_2, e6_isOrder_5, e6_isOrder_6, e6_isOrder_7, e6_isOrder_8, e6_isOrder_10, e6_isOrder_12, e6_isOrder_15, e6_isOrder_18, e6_isOrder_19, e6_isOrder_22, e6_isOrder_23, e6_isOrder_24, e6_isOrder_27, e6_isOrder_28, e6_isOrder_31, e6_isOrder_32, e6_isOrder_33, e6_isOrder_34, e6_isOrder_35, e6_isOrder_38, e6_isOrder_39, e6_isOrder_40, e6_isOrder_43, e6_isOrder_44, e6_isOrder_45, e6_isOrder_46, e6_isOrder_48, e6_isOrder_50, e6_isOrder_53, e6_isOrder_56, e6_isOrder_57, e6_isOrder_58, e6_isOrder_59, e6_isOrder_62, e6_isOrder_63, e6_isOrder_64, e6_isOrder_65, e6_isOrder_66, e6_isOrder_69, e6_isOrder_70, e6_isOrder_73, e6_isOrder_74, e6_isOrder_76, e6_isOrder_77, e6_isOrder_78, e6_isOrder_79, e6_isOrder_80, e6_isOrder_83, e6_isOrder_84, e6_isOrder_85, e6_isOrder_88, h9, g_x3, A, c1, c2, h8, h60, i1, hb1, s21, nI_1, m_kill, m_cE_i, m_cE_v, m_cE_ite, m_kill, (by decide : ¬ (1 : Int32) = 0), ne_eq, if_true, if_false, not_false_eq_true]
      rw [show m_set (m_set M 21 0 0 (3 * n + 1) (M 20 0 0 a - 48)) 15 0 0 8 (nI (a + 1)) = k_o1 M (3 * n) a from rfl]
      have K8 : k_o1 M (3 * n) a 15 0 0 8 = nI (a + 1) := m_set_i
      have K7 : k_o1 M (3 * n) a 15 0 0 7 = nI L := by
        unfold k_o1
        rw [m_set_n (fun q => absurd q.2.2.2 (by decide)), m_set_n (fun q => absurd q.1 (by decide))]
        exact h7
      have K20 : k_o1 M (3 * n) a 20 0 0 = M 20 0 0 := by
        funext k
        unfold k_o1
        rw [m_set_n (fun q => absurd q.1 (by decide)), m_set_n (fun q => absurd q.1 (by decide))]
      have A1 : ∀ lo hi, m_cl 147 [.ref (m_lc 15 0 0), .int lo, .int hi] (k_o1 M (3 * n) a) = some (.inl (some (.int (k_at (M 20 0 0) L (a + 1) lo hi))), k_o1 M (3 * n) a) := fun lo hi => by
        rw [← K20]
        exact g_isAt L (a + 1) hL (by omega) K7 K8 lo hi
      have K20a : ∀ k, k_o1 M (3 * n) a 20 0 0 k = M 20 0 0 k := fun k => by rw [K20]
      have S1 : ∀ x : Int32, m_set (k_o1 M (3 * n) a) 21 0 0 (3 * n) x 15 0 0 8 = nI (a + 1) := fun x => by rw [m_set_n (fun q => absurd q.1 (by decide))]; exact K8
      have hK2 : m_set (m_set (k_o1 M (3 * n) a) 21 0 0 (3 * n) (M 20 0 0 (a + 1))) 15 0 0 8 (nI (a + 1 + 1)) = k_o2 M (3 * n) a := rfl
      have Q8 : k_o2 M (3 * n) a 15 0 0 8 = nI (a + 1 + 1) := m_set_i
      have Q7 : k_o2 M (3 * n) a 15 0 0 7 = nI L := by
        unfold k_o2
        rw [m_set_n (fun q => absurd q.2.2.2 (by decide)), m_set_n (fun q => absurd q.1 (by decide))]
        exact K7
      have Q20 : k_o2 M (3 * n) a 20 0 0 = M 20 0 0 := by
        funext k
        unfold k_o2
        rw [m_set_n (fun q => absurd q.1 (by decide)), m_set_n (fun q => absurd q.1 (by decide)), K20]
      have Q20a : ∀ k, k_o2 M (3 * n) a 20 0 0 k = M 20 0 0 k := fun k => by rw [Q20]
      rcases k_at_c (M 20 0 0) L (a + 1) 99 99 with c3 | c3
      · have hlt1 := k_at_lt c3
        have h61 : a + 1 < 60 := by omega
        have A2 := g_isAt (M := k_o2 M (3 * n) a) L (a + 1 + 1) hL (by omega) Q7 Q8 48 57
        rw [Q20] at A2
        rw [if_pos c3]
        simp only [e6_isOrder_89, e6_isOrder_91, e6_isOrder_93, e6_isOrder_96, e6_isOrder_97, e6_isOrder_98, e6_isOrder_101, e6_isOrder_102, e6_isOrder_104, e6_isOrder_106, e6_isOrder_109, e6_isOrder_112, e6_isOrder_113, e6_isOrder_115, e6_isOrder_117, e6_isOrder_120, e6_isOrder_123, e6_isOrder_124, e6_isOrder_125, e6_isOrder_126, e6_isOrder_129, e6_isOrder_130, e6_isOrder_131, e6_isOrder_134, e6_isOrder_135, e6_isOrder_138, e6_isOrder_139, e6_isOrder_140, e6_isOrder_141, e6_isOrder_142, e6_isOrder_145, e6_isOrder_146, e6_isOrder_147, e6_isOrder_150, e6_isOrder_151, e6_isOrder_154, e6_isOrder_155, e6_isOrder_156, e6_isOrder_159, e6_isOrder_160, e6_isOrder_161, e6_isOrder_163, e6_isOrder_165, A1, c3, K8, K20a, h61, hb0, S1, nI_1, hK2, A2, m_kill, m_cE_i, m_cE_v, m_cE_ite, m_kill, (by decide : ¬ (1 : Int32) = 0), ne_eq, if_true, if_false, not_false_eq_true]
        have S2 : ∀ x : Int32, m_set (k_o2 M (3 * n) a) 21 0 0 (3 * n + 2) x 15 0 0 8 = nI (a + 1 + 1) := fun x => by rw [m_set_n (fun q => absurd q.1 (by decide))]; exact Q8
        rcases k_at_c (M 20 0 0) L (a + 1 + 1) 48 57 with c4 | c4
        · have h62 : a + 1 + 1 < 60 := by have := k_at_lt c4; omega
          simp only [e6_isOrder_168, e6_isOrder_169, e6_isOrder_170, e6_isOrder_173, e6_isOrder_174, e6_isOrder_175, e6_isOrder_176, e6_isOrder_177, e6_isOrder_180, e6_isOrder_181, e6_isOrder_184, e6_isOrder_185, e6_isOrder_188, e6_isOrder_189, e6_isOrder_191, e6_isOrder_192, e6_isOrder_195, e6_isOrder_196, e6_isOrder_197, e6_isOrder_198, e6_isOrder_199, e6_isOrder_202, e6_isOrder_203, e6_isOrder_206, e6_isOrder_207, e6_isOrder_210, e6_isOrder_211, e6_isOrder_212, e6_isOrder_215, e6_isOrder_216, c4, Q8, Q20a, h62, i2, hb2, S2, nI_1, m_nok11, m_kill, m_cE_i, m_cE_v, m_cE_ite, m_kill, (by decide : ¬ (1 : Int32) = 0), ne_eq, if_true, if_false, not_false_eq_true]
        · simp only [e6_isOrder_168, e6_isOrder_169, e6_isOrder_170, e6_isOrder_173, e6_isOrder_174, e6_isOrder_175, e6_isOrder_176, e6_isOrder_177, e6_isOrder_180, e6_isOrder_181, e6_isOrder_184, e6_isOrder_185, e6_isOrder_188, e6_isOrder_189, e6_isOrder_191, e6_isOrder_192, e6_isOrder_195, e6_isOrder_196, e6_isOrder_197, e6_isOrder_198, e6_isOrder_199, e6_isOrder_202, e6_isOrder_203, e6_isOrder_206, e6_isOrder_207, e6_isOrder_210, e6_isOrder_211, e6_isOrder_212, e6_isOrder_215, e6_isOrder_216, c4, Q8, Q20a, i2, hb2, S2, m_nok10, m_kill, m_cE_i, m_cE_v, m_cE_ite, m_kill, (by decide : ¬ (0 : Int32) = 1), ne_eq, if_true, if_false, not_false_eq_true]
      · rw [if_neg (by rw [c3]; decide)]
        have hnum : ∀ h62 : a + 1 + 1 ≤ L, m_cl 148 [.ref (m_lc 15 0 0), .int (nI (3 * n))] (k_o2 M (3 * n) a) = some (.inl (some (.int (k_at (M 20 0 0) L (a + 1 + 1) 49 57))), m_set (m_set (k_o2 M (3 * n) a) 15 0 0 8 (nI (k_nu (M 20 0 0) L (a + 1 + 1)).1)) 21 0 0 (3 * n + 2) (k_nu (M 20 0 0) L (a + 1 + 1)).2) := fun h62 => by
          have := g_num (M := k_o2 M (3 * n) a) L (a + 1 + 1) (3 * n) hL h62 hb2 Q7 Q8
          rw [Q20] at this
          exact this
        have hnk : m_nok 1 (k_at (M 20 0 0) L (a + 1 + 1) 49 57) = true := by
          rcases k_at_c (M 20 0 0) L (a + 1 + 1) 49 57 with q | q <;> (rw [q]; decide)
        rcases k_at_c (M 20 0 0) L (a + 1) 119 119 with c4 | c4
        · have hlt1 := k_at_lt c4
          have h61 : a + 1 < 60 := by omega
          rw [if_pos (Or.inl c4)]
          simp only [e6_isOrder_89, e6_isOrder_91, e6_isOrder_93, e6_isOrder_96, e6_isOrder_97, e6_isOrder_98, e6_isOrder_101, e6_isOrder_102, e6_isOrder_104, e6_isOrder_106, e6_isOrder_109, e6_isOrder_112, e6_isOrder_113, e6_isOrder_115, e6_isOrder_117, e6_isOrder_120, e6_isOrder_123, e6_isOrder_124, e6_isOrder_125, e6_isOrder_126, e6_isOrder_129, e6_isOrder_130, e6_isOrder_131, e6_isOrder_134, e6_isOrder_135, e6_isOrder_138, e6_isOrder_139, e6_isOrder_140, e6_isOrder_141, e6_isOrder_142, e6_isOrder_145, e6_isOrder_146, e6_isOrder_147, e6_isOrder_150, e6_isOrder_151, e6_isOrder_154, e6_isOrder_155, e6_isOrder_156, e6_isOrder_159, e6_isOrder_160, A1, c3, c4, K8, K20a, h61, hb0, S1, nI_1, hK2, hnum (by omega), hnk, m_kill, m_cE_i, m_cE_v, m_cE_ite, m_kill, (by decide : ¬ (1 : Int32) = 0), ne_eq, if_true, if_false, not_false_eq_true]
        · rcases k_at_c (M 20 0 0) L (a + 1) 103 103 with c5 | c5
          · have hlt1 := k_at_lt c5
            have h61 : a + 1 < 60 := by omega
            rw [if_pos (Or.inr c5)]
            simp only [e6_isOrder_89, e6_isOrder_91, e6_isOrder_93, e6_isOrder_96, e6_isOrder_97, e6_isOrder_98, e6_isOrder_101, e6_isOrder_102, e6_isOrder_104, e6_isOrder_106, e6_isOrder_109, e6_isOrder_112, e6_isOrder_113, e6_isOrder_115, e6_isOrder_117, e6_isOrder_120, e6_isOrder_123, e6_isOrder_124, e6_isOrder_125, e6_isOrder_126, e6_isOrder_129, e6_isOrder_130, e6_isOrder_131, e6_isOrder_134, e6_isOrder_135, e6_isOrder_138, e6_isOrder_139, e6_isOrder_140, e6_isOrder_141, e6_isOrder_142, e6_isOrder_145, e6_isOrder_146, e6_isOrder_147, e6_isOrder_150, e6_isOrder_151, e6_isOrder_154, e6_isOrder_155, e6_isOrder_156, e6_isOrder_159, e6_isOrder_160, A1, c3, c4, c5, K8, K20a, h61, hb0, S1, nI_1, hK2, hnum (by omega), hnk, m_kill, m_cE_i, m_cE_v, m_cE_ite, m_kill, (by decide : ¬ (1 : Int32) = 0), ne_eq, if_true, if_false, not_false_eq_true]
          · rw [if_neg (fun q => q.elim (fun q => by rw [c4] at q; exact absurd q (by decide)) (fun q => by rw [c5] at q; exact absurd q (by decide)))]
            simp only [e6_isOrder_89, e6_isOrder_91, e6_isOrder_93, e6_isOrder_96, e6_isOrder_97, e6_isOrder_98, e6_isOrder_101, e6_isOrder_102, e6_isOrder_104, e6_isOrder_106, e6_isOrder_109, e6_isOrder_112, e6_isOrder_113, e6_isOrder_115, e6_isOrder_117, e6_isOrder_120, e6_isOrder_123, e6_isOrder_124, e6_isOrder_125, e6_isOrder_126, e6_isOrder_129, e6_isOrder_130, e6_isOrder_131, e6_isOrder_134, e6_isOrder_135, e6_isOrder_138, e6_isOrder_139, e6_isOrder_140, e6_isOrder_141, e6_isOrder_142, e6_isOrder_145, e6_isOrder_146, e6_isOrder_147, e6_isOrder_150, e6_isOrder_151, e6_isOrder_154, e6_isOrder_155, e6_isOrder_156, e6_isOrder_159, e6_isOrder_160, A1, c3, c4, c5, m_nok10, m_kill, m_cE_i, m_cE_v, m_cE_ite, m_kill, ne_eq, if_true, if_false, not_false_eq_true]
    · rw [if_pos c2]
      simp only [e6_isOrder_0, e6_isOrder_1, e6_isOrder_2, e6_isOrder_5, e6_isOrder_6, e6_isOrder_7, e6_isOrder_8, e6_isOrder_10, e6_isOrder_12, e6_isOrder_15, e6_isOrder_18, e6_isOrder_19, e6_isOrder_22, e6_isOrder_23, e6_isOrder_24, e6_isOrder_27, e6_isOrder_28, e6_isOrder_31, e6_isOrder_32, e6_isOrder_33, e6_isOrder_34, e6_isOrder_35, e6_isOrder_38, e6_isOrder_39, e6_isOrder_40, e6_isOrder_43, e6_isOrder_44, e6_isOrder_45, e6_isOrder_46, e6_isOrder_48, e6_isOrder_50, e6_isOrder_53, e6_isOrder_56, e6_isOrder_57, e6_isOrder_58, e6_isOrder_59, e6_isOrder_62, e6_isOrder_63, e6_isOrder_64, e6_isOrder_65, e6_isOrder_66, e6_isOrder_69, e6_isOrder_70, e6_isOrder_73, e6_isOrder_74, e6_isOrder_76, e6_isOrder_77, e6_isOrder_78, e6_isOrder_79, e6_isOrder_80, e6_isOrder_83, e6_isOrder_84, e6_isOrder_85, e6_isOrder_88, e6_isOrder_89, e6_isOrder_91, e6_isOrder_93, e6_isOrder_96, e6_isOrder_97, e6_isOrder_98, e6_isOrder_101, e6_isOrder_102, e6_isOrder_104, e6_isOrder_106, e6_isOrder_109, e6_isOrder_112, e6_isOrder_113, e6_isOrder_115, e6_isOrder_117, e6_isOrder_120, e6_isOrder_123, e6_isOrder_124, e6_isOrder_125, e6_isOrder_126, e6_isOrder_129, e6_isOrder_130, e6_isOrder_131, e6_isOrder_134, e6_isOrder_135, e6_isOrder_138, e6_isOrder_139, e6_isOrder_140, e6_isOrder_141, e6_isOrder_142, e6_isOrder_145, e6_isOrder_146, e6_isOrder_147, e6_isOrder_150, e6_isOrder_151, e6_isOrder_154, e6_isOrder_155, e6_isOrder_156, e6_isOrder_159, e6_isOrder_160, e6_isOrder_161, e6_isOrder_163, e6_isOrder_165, e6_isOrder_168, e6_isOrder_169, e6_isOrder_170, e6_isOrder_173, e6_isOrder_174, e6_isOrder_175, e6_isOrder_176, e6_isOrder_177, e6_isOrder_180, e6_isOrder_181, e6_isOrder_184, e6_isOrder_185, e6_isOrder_188, e6_isOrder_189, e6_isOrder_191, e6_isOrder_192, e6_isOrder_195, e6_isOrder_196, e6_isOrder_197, e6_isOrder_198, e6_isOrder_199, e6_isOrder_202, e6_isOrder_203, e6_isOrder_206, e6_isOrder_207, e6_isOrder_210, e6_isOrder_211, e6_isOrder_212, e6_isOrder_215, e6_isOrder_216, h9, g_x3, A, c1, c2, m_nok10, m_kill, m_cE_i, m_cE_v, m_cE_ite, m_kill, ne_eq, if_true, if_false, not_false_eq_true]
end TEXT2
