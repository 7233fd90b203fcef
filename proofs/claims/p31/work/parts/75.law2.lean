/-! THE LAW'S OWN SUMS: weighs. -/
def l_ad (M : m_Mem) (a i : Nat) (v : Int32) : m_Mem := m_set M a 0 0 i (M a 0 0 i + v)
def l_M3 (M : m_Mem) (d : Nat) (g e y t f : Int32) : m_Mem :=
  let M1 := l_ad M 17 (8 * d) (y - t)
  let M2 := m_set M1 17 0 0 (8 * d + 1) (M1 17 0 0 (8 * d + 1) - t)
  l_ad (l_ad (l_ad (l_ad M2 17 (8 * d + 3) g) 17 (8 * d + 4) f) 17 (8 * d + 5) y) 17 (8 * d + 6) e
def l_M4 (M : m_Mem) (c : Nat) (g p f : Int32) : m_Mem :=
  l_ad (l_ad (l_ad (l_ad (m_set (l_ad M 18 (6 * c + 3) g) 18 0 0 (6 * c + 5) 1) 16 2 g) 16 3 f) 16 4 p) 16 7 1
def l_M5 (M : m_Mem) : m_Mem := l_ad M 16 6 (if M 16 0 0 7 - M 16 0 0 7 / M 16 0 0 12 * M 16 0 0 12 = 0 ∧ ¬ M 16 0 0 6 = 50 then 1 else 0)
def l_t (M : m_Mem) (d : Nat) (y : Int32) : Int32 := if M 17 0 0 (8 * d + 1) < y / 2 then M 17 0 0 (8 * d + 1) else y / 2
def l_p (M : m_Mem) (g : Int32) : Int32 := k_price (y_K M) g (M 16 0 0 8)
def l_e (M : m_Mem) (g : Int32) : Int32 := l_p M g * M 16 0 0 10 / 100
def l_y (M : m_Mem) (g : Int32) : Int32 := l_p M g - l_e M g
def l_f (M : m_Mem) (c : Nat) (g : Int32) : Int32 := M 18 0 0 (6 * c) * g / 1000
def l_wi (M : m_Mem) (d c : Nat) (g : Int32) : m_Mem := l_M5 (l_M4 (l_M3 M d g (l_e M g) (l_y M g) (l_t M d (l_y M g)) (l_f M c g)) c g (l_p M g) (l_f M c g))
section LAW2
variable {M : m_Mem} {N B : Nat}
theorem l_ad_n {a i : Nat} {v : Int32} {a' b c k : Nat} (h : ¬ (a' = a ∧ b = 0 ∧ c = 0 ∧ k = i)) : l_ad M a i v a' b c k = M a' b c k := m_set_n h
theorem l_w5 (M : m_Mem) (y : Int32) (l1 l2 l3 l4 l5 l6 l7 l8 l10 l11 : Option Value) (h12 : ¬ M 16 0 0 12 = 0) : m_E 105 240 [some (.ref (m_lc 16 0 0)), l1, l2, l3, l4, l5, l6, l7, l8, some (.int y), l10, l11] [] M = some (.inl (some (.int y)), l_M5 M) := by
  unfold l_M5 l_ad
  by_cases h1 : M 16 0 0 7 - M 16 0 0 7 / M 16 0 0 12 * M 16 0 0 12 = 0
  · by_cases h2 : M 16 0 0 6 = 50
    · simp only [eL_weighs_240, eL_weighs_241, eL_weighs_243, eL_weighs_244, eL_weighs_245, eL_weighs_246, eL_weighs_248, eL_weighs_249, eL_weighs_250, eL_weighs_252, eL_weighs_253, eL_weighs_254, eL_weighs_257, eL_weighs_258, eL_weighs_260, eL_weighs_261, eL_weighs_263, eL_weighs_266, eL_weighs_267, eL_weighs_270, eL_weighs_271, eL_weighs_272, eL_weighs_273, eL_weighs_275, h12, h1, h2, not_false_eq_true, not_true_eq_false, and_false, if_true, if_false, not_false_eq_true]
    · simp only [eL_weighs_240, eL_weighs_241, eL_weighs_243, eL_weighs_244, eL_weighs_245, eL_weighs_246, eL_weighs_248, eL_weighs_249, eL_weighs_250, eL_weighs_252, eL_weighs_253, eL_weighs_254, eL_weighs_257, eL_weighs_258, eL_weighs_260, eL_weighs_261, eL_weighs_263, eL_weighs_266, eL_weighs_267, eL_weighs_270, eL_weighs_271, eL_weighs_272, eL_weighs_273, eL_weighs_275, h12, h1, h2, not_false_eq_true, and_self, if_true, if_false, not_false_eq_true]
  · simp only [eL_weighs_240, eL_weighs_241, eL_weighs_243, eL_weighs_244, eL_weighs_245, eL_weighs_246, eL_weighs_248, eL_weighs_249, eL_weighs_250, eL_weighs_252, eL_weighs_253, eL_weighs_254, eL_weighs_257, eL_weighs_258, eL_weighs_260, eL_weighs_261, eL_weighs_263, eL_weighs_266, eL_weighs_267, eL_weighs_270, eL_weighs_271, eL_weighs_272, eL_weighs_273, eL_weighs_275, h12, h1, not_false_eq_true, false_and, if_true, if_false, not_false_eq_true]
theorem l_w4 (M : m_Mem) (c : Nat) (hc : c < 10) (g p e y t f : Int32) (l1 l3 l5 : Option Value) (h12 : ¬ M 16 0 0 12 = 0) : m_E 105 190 [some (.ref (m_lc 16 0 0)), l1, some (.ref (m_lc 18 0 0)), l3, some (.int g), l5, some (.int (nI (6 * c))), some (.int p), some (.int e), some (.int y), some (.int t), some (.int f)] [] M =
    some (.inl (some (.int y)), l_M5 (l_M4 M c g p f)) := by
  have b3 : 6 * c + 3 < 60 := by omega
  have b5 : 6 * c + 5 < 60 := by omega
  simp only [eL_weighs_190, eL_weighs_191, eL_weighs_193, eL_weighs_194, eL_weighs_195, eL_weighs_196, eL_weighs_197, eL_weighs_199, eL_weighs_200, eL_weighs_201, eL_weighs_202, eL_weighs_204, eL_weighs_205, eL_weighs_206, eL_weighs_207, eL_weighs_208, eL_weighs_209, eL_weighs_210, eL_weighs_211, eL_weighs_212, eL_weighs_214, eL_weighs_215, eL_weighs_216, eL_weighs_217, eL_weighs_218, eL_weighs_219, eL_weighs_220, eL_weighs_222, eL_weighs_223, eL_weighs_224, eL_weighs_225, eL_weighs_226, eL_weighs_227, eL_weighs_228, eL_weighs_230, eL_weighs_231, eL_weighs_232, eL_weighs_233, eL_weighs_235, eL_weighs_236, eL_weighs_237, eL_weighs_238, eL_weighs_239, b3, b5, i_p3, i_p5]
  refine (l_w5 _ _ _ _ _ _ _ _ _ _ _ _ ?_).trans rfl
  simp (disch := omega) only [m_set_n]
  exact h12
theorem l_w3 (M : m_Mem) (d c : Nat) (hd : d < 8) (hc : c < 10) (g p e y t : Int32) (l3 l10 l11 : Option Value) (h12 : ¬ M 16 0 0 12 = 0) : m_E 105 107 [some (.ref (m_lc 16 0 0)), some (.ref (m_lc 17 0 0)), some (.ref (m_lc 18 0 0)), l3, some (.int g), some (.int (nI (8 * d))), some (.int (nI (6 * c))), some (.int p), some (.int e), some (.int y), l10, l11] [.int t] M =
    some (.inl (some (.int y)), l_M5 (l_M4 (l_M3 M d g e y t (l_f M c g)) c g p (l_f M c g))) := by
  have b0 : 8 * d < 64 := by omega
  have b1 : 8 * d + 1 < 64 := by omega
  have b3 : 8 * d + 3 < 64 := by omega
  have b4 : 8 * d + 4 < 64 := by omega
  have b5 : 8 * d + 5 < 64 := by omega
  have b6 : 8 * d + 6 < 64 := by omega
  have c0 : 6 * c < 60 := by omega
  have hf : M 18 0 0 (6 * c) * g / 1000 = l_f M c g := rfl
  simp only [eL_weighs_107, eL_weighs_109, eL_weighs_110, eL_weighs_112, eL_weighs_113, eL_weighs_115, eL_weighs_116, eL_weighs_119, eL_weighs_120, c0, m_kill, (by decide : ¬ (1000 : Int32) = 0), not_false_eq_true, hf]
  simp only [eL_weighs_122, eL_weighs_123, eL_weighs_125, eL_weighs_126, eL_weighs_127, eL_weighs_129, eL_weighs_131, eL_weighs_132, eL_weighs_133, eL_weighs_134, eL_weighs_135, eL_weighs_137, eL_weighs_138, eL_weighs_139, eL_weighs_140, eL_weighs_141, eL_weighs_143, eL_weighs_144, eL_weighs_145, eL_weighs_146, eL_weighs_148, eL_weighs_149, eL_weighs_150, eL_weighs_151, eL_weighs_152, eL_weighs_154, eL_weighs_155, eL_weighs_156, eL_weighs_157, eL_weighs_159, eL_weighs_160, eL_weighs_161, eL_weighs_162, eL_weighs_163, eL_weighs_165, eL_weighs_166, eL_weighs_167, eL_weighs_168, eL_weighs_170, eL_weighs_171, eL_weighs_172, eL_weighs_173, eL_weighs_174, eL_weighs_176, eL_weighs_177, eL_weighs_178, eL_weighs_179, eL_weighs_181, eL_weighs_183, eL_weighs_184, eL_weighs_185, eL_weighs_186, eL_weighs_188, eL_weighs_189, b0, b1, b3, b4, b5, b6, nI_1, i_p3, i_p4, i_p5, i_p6]
  refine (l_w4 _ c hc g p e y t _ _ _ _ ?_).trans rfl
  simp (disch := omega) only [m_set_n]
  exact h12
theorem l_weighs (hN : M 16 0 0 1 = nI N) (hN8 : N ≤ 8) (h12 : ¬ M 16 0 0 12 = 0) (d : Nat) (hd : d < 16) (g : Int32) (hc : d < N → M 17 0 0 (8 * d + 2) < 0 ∨ ∃ c, c < 10 ∧ M 17 0 0 (8 * d + 2) = nI c) :
    m_cl 105 [.ref (m_lc 16 0 0), .ref (m_lc 17 0 0), .ref (m_lc 18 0 0), .int (nI d), .int g] M =
    if N ≤ d then some (.inl (some (.int (-11))), M) else if M 17 0 0 (8 * d + 2) < 0 ∨ 99999 < g + M 16 0 0 2 then some (.inl (some (.int (-13))), M)
    else some (.inl (some (.int (l_y M g))), l_wi M d (M 17 0 0 (8 * d + 2)).toNatClampNeg g) := by
  rw [eL_weighs_en]
  by_cases h1 : N ≤ d
  · have h2 : ¬ nI d < nI N := nI_nlt h1 (by omega)
    simp only [eL_weighs_0, eL_weighs_1, eL_weighs_2, eL_weighs_3, eL_weighs_4, eL_weighs_7, eL_weighs_9, hN, h1, h2, if_true, if_false]
  · have h2 : nI d < nI N := nI_lt (by omega) (by omega)
    have b2 : 8 * d + 2 < 64 := by omega
    have b1 : 8 * d + 1 < 64 := by omega
    have hd8 : d < 8 := by omega
    by_cases h3 : M 17 0 0 (8 * d + 2) < 0
    · simp only [eL_weighs_0, eL_weighs_1, eL_weighs_2, eL_weighs_3, eL_weighs_4, eL_weighs_7, eL_weighs_9, eL_weighs_10, eL_weighs_12, eL_weighs_13, eL_weighs_14, eL_weighs_16, eL_weighs_17, eL_weighs_19, eL_weighs_20, eL_weighs_21, eL_weighs_22, eL_weighs_25, eL_weighs_27, eL_weighs_28, eL_weighs_29, eL_weighs_30, eL_weighs_31, eL_weighs_33, eL_weighs_36, eL_weighs_38, hN, h1, h2, h3, b2, g_x8, i_p2, m_kill, true_or, if_true, if_false]
    · by_cases h4 : 99999 < g + M 16 0 0 2
      · have h5 : ¬ g + M 16 0 0 2 ≤ 99999 := Int32.not_le.mpr h4
        simp only [eL_weighs_0, eL_weighs_1, eL_weighs_2, eL_weighs_3, eL_weighs_4, eL_weighs_7, eL_weighs_9, eL_weighs_10, eL_weighs_12, eL_weighs_13, eL_weighs_14, eL_weighs_16, eL_weighs_17, eL_weighs_19, eL_weighs_20, eL_weighs_21, eL_weighs_22, eL_weighs_25, eL_weighs_27, eL_weighs_28, eL_weighs_29, eL_weighs_30, eL_weighs_31, eL_weighs_33, eL_weighs_36, eL_weighs_38, hN, h1, h2, h3, h4, h5, b2, g_x8, i_p2, m_kill, or_true, if_true, if_false]
      · have h5 : g + M 16 0 0 2 ≤ 99999 := Int32.not_lt.mp h4
        obtain ⟨c, hc9, ho⟩ := (hc (by omega)).resolve_left h3
        have cc : (nI c).toNatClampNeg = c := nI_clamp (by omega)
        have hp : k_price (y_K M) g (M 16 0 0 8) = l_p M g := rfl
        have he : l_p M g * M 16 0 0 10 / 100 = l_e M g := rfl
        have hy : l_p M g - l_e M g = l_y M g := rfl
        have n3 : ¬ nI c < 0 := nI_pos (by omega)
        unfold l_wi
        rw [if_neg h1, if_neg (fun q => q.elim h3 h4), ho, cc]
        simp only [eL_weighs_0, eL_weighs_1, eL_weighs_2, eL_weighs_3, eL_weighs_4, eL_weighs_7, eL_weighs_9, eL_weighs_10, eL_weighs_12, eL_weighs_13, eL_weighs_14, eL_weighs_16, eL_weighs_17, eL_weighs_19, eL_weighs_20, eL_weighs_21, eL_weighs_22, hN, h2, ho, n3, b2, g_x8, i_p2, m_kill, if_true, if_false]
        simp only [eL_weighs_25, eL_weighs_27, eL_weighs_28, eL_weighs_29, eL_weighs_30, eL_weighs_31, eL_weighs_33, eL_weighs_36, eL_weighs_38, h5, m_kill, if_true]
        simp only [eL_weighs_39, eL_weighs_41, eL_weighs_42, eL_weighs_44, eL_weighs_45, eL_weighs_46, eL_weighs_47, eL_weighs_48, eL_weighs_50, eL_weighs_51, eL_weighs_53, eL_weighs_54, eL_weighs_56, eL_weighs_57, ho, b2, i_p2, g_x6, m_kill, l_priced, m_cE_i, hp]
        simp only [eL_weighs_60, eL_weighs_62, eL_weighs_64, eL_weighs_65, eL_weighs_67, eL_weighs_68, eL_weighs_69, eL_weighs_71, eL_weighs_72, eL_weighs_74, eL_weighs_76, eL_weighs_78, eL_weighs_79, eL_weighs_81, m_kill, (by decide : ¬ (100 : Int32) = 0), not_false_eq_true, he, hy]
        by_cases h6 : M 17 0 0 (8 * d + 1) < l_y M g / 2
        · have h7 : ¬ l_y M g / 2 ≤ M 17 0 0 (8 * d + 1) := Int32.not_le.mpr h6
          have ht : M 17 0 0 (8 * d + 1) = l_t M d (l_y M g) := (if_pos h6).symm
          simp only [eL_weighs_83, eL_weighs_84, eL_weighs_85, eL_weighs_86, eL_weighs_88, eL_weighs_89, eL_weighs_90, eL_weighs_91, eL_weighs_94, eL_weighs_95, eL_weighs_97, eL_weighs_98, eL_weighs_99, eL_weighs_100, eL_weighs_103, eL_weighs_105, eL_weighs_106, b1, nI_1, h7, (by decide : ¬ (2 : Int32) = 0), not_false_eq_true, if_false]
          rw [ht]
          exact l_w3 M d c hd8 hc9 g _ _ _ _ _ _ _ h12
        · have h7 : l_y M g / 2 ≤ M 17 0 0 (8 * d + 1) := Int32.not_lt.mp h6
          have ht : l_y M g / 2 = l_t M d (l_y M g) := (if_neg h6).symm
          simp only [eL_weighs_83, eL_weighs_84, eL_weighs_85, eL_weighs_86, eL_weighs_88, eL_weighs_89, eL_weighs_90, eL_weighs_91, eL_weighs_94, eL_weighs_95, eL_weighs_97, eL_weighs_98, eL_weighs_99, eL_weighs_100, eL_weighs_103, eL_weighs_105, eL_weighs_106, b1, nI_1, h7, (by decide : ¬ (2 : Int32) = 0), not_false_eq_true, if_true]
          rw [ht]
          exact l_w3 M d c hd8 hc9 g _ _ _ _ _ _ _ h12
end LAW2
