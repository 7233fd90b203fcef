/-! THE LAW, from where its camp stands. -/
section LAW
variable {M : m_Mem} {L c : Nat}
theorem y_VV27 (h : y_VV M L c) : M 27 0 0 0 = nI L := by
  obtain ⟨n, N, B, h⟩ := h
  exact h.2.2.2.2
theorem ll_acts (h : y_VV M L c) (hcn : c < 99999) (z : Int32) : ∃ M2 c', m_cl 111 [.ref (m_lc 1 0 0), .ref (m_lc 16 0 0), .ref (m_lc 17 0 0), .ref (m_lc 18 0 0), .ref (m_lc 19 0 0), .int z] M = some (.inl (some (.int 1)), M2) ∧ y_VV M2 L c' ∧ c' ≤ c + 1 := by
  obtain ⟨n, N, B, h⟩ := h
  exact l_acts h hcn z
theorem ll_isSo (h : y_VV M L c) (hcn : c + 40 < 100000) : ∃ M2 c', m_cl 115 [.ref (m_lc 1 0 0), .ref (m_lc 16 0 0), .ref (m_lc 17 0 0), .ref (m_lc 18 0 0), .ref (m_lc 19 0 0)] M = some (.inl (some (.int 1)), M2) ∧ y_VV M2 L c' ∧ c' ≤ c + 30 := by
  obtain ⟨n, N, B, h⟩ := h
  obtain ⟨hN, hN8, hB, hB12, h75⟩ := y_N h
  exact ⟨_, _, l_isSo h hcn, ⟨n, N, B, y_Vb h (10 + N + B)⟩, by omega⟩
theorem l_law1 (hL : L < 2 ^ 31) (v8 : Option Value) : ∀ (q k : Nat), k + q = 7 → ∀ (M : m_Mem) (c : Nat), y_VV M L c → c + 7 < 99999 + k → ∃ M2 c',
    m_E 116 116 [some (.ref (m_lc 26 0 0)), some (.ref (m_lc 1 0 0)), some (.ref (m_lc 16 0 0)), some (.ref (m_lc 17 0 0)), some (.ref (m_lc 18 0 0)), some (.ref (m_lc 19 0 0)), some (.int 1), some (.int (nI k)), v8] [] M = m_E 116 188 [some (.ref (m_lc 26 0 0)), some (.ref (m_lc 1 0 0)), some (.ref (m_lc 16 0 0)), some (.ref (m_lc 17 0 0)), some (.ref (m_lc 18 0 0)), some (.ref (m_lc 19 0 0)), some (.int 1), some (.int (nI 7)), v8] [] M2 ∧ y_VV M2 L c' ∧ c' + k ≤ c + 7 := by
  intro q
  induction q with
  | zero =>
    intro k hk M c h hcn
    have e : k = 7 := by omega
    subst e
    refine ⟨M, c, ?_, h, Nat.le_refl _⟩
    simp only [eL_law_116, eL_law_118, eL_law_120, (by decide : (7 : Int32) ≤ nI 7), if_true]
  | succ q ih =>
    intro k hk M c h hcn
    have hlt : k < 7 := by omega
    have hle : ¬ (7 : Int32) ≤ nI k := nI_ge (b := 7) hlt (by decide)
    have e1 : (1 : Int32) + nI k = nI (1 + k) := nI_add 1 k
    obtain ⟨v, hv⟩ := l_cell (y_VV27 h) hL (1 + k) (by omega)
    have fin : ∀ z : Int32, ∃ M2 c', m_E 116 177 [some (.ref (m_lc 26 0 0)), some (.ref (m_lc 1 0 0)), some (.ref (m_lc 16 0 0)), some (.ref (m_lc 17 0 0)), some (.ref (m_lc 18 0 0)), some (.ref (m_lc 19 0 0)), some (.int 1), some (.int (nI k)), v8] [.int z, .ref (m_lc 19 0 0), .ref (m_lc 18 0 0), .ref (m_lc 17 0 0), .ref (m_lc 16 0 0), .ref (m_lc 1 0 0)] M = m_E 116 188 [some (.ref (m_lc 26 0 0)), some (.ref (m_lc 1 0 0)), some (.ref (m_lc 16 0 0)), some (.ref (m_lc 17 0 0)), some (.ref (m_lc 18 0 0)), some (.ref (m_lc 19 0 0)), some (.int 1), some (.int (nI 7)), v8] [] M2 ∧ y_VV M2 L c' ∧ c' + k ≤ c + 7 := by
      intro z
      obtain ⟨M1, c1, l1, h1, h2⟩ := ll_acts h (by omega) z
      obtain ⟨M2, c2, l2, h3, h4⟩ := ih (k + 1) (by omega) M1 c1 h1 (by omega)
      refine ⟨M2, c2, ?_, h3, by omega⟩
      rw [← l2]
      simp only [eL_law_177, eL_law_180, eL_law_182, eL_law_185, l1, nI_1, m_cE_i, m_kill]
    rw [eL_law_116]
    simp only [eL_law_118, eL_law_120, eL_law_123, eL_law_125, eL_law_128, eL_law_129, eL_law_130, eL_law_131, eL_law_133, eL_law_135, eL_law_136, eL_law_137, eL_law_139, eL_law_140, eL_law_143, eL_law_145, eL_law_146, eL_law_149, eL_law_150, eL_law_153, hle, e1, hv, m_cE_i, m_kill, (by decide : ¬ (1 : Int32) = 0), (by decide : ¬ (192 : Int32) = 0), not_false_eq_true, if_false]
    by_cases c1 : k < 2
    · have d1 : ¬ (2 : Int32) ≤ nI k := nI_ge (b := 2) c1 (by decide)
      simp only [eL_law_154, eL_law_156, eL_law_157, eL_law_160, eL_law_161, eL_law_176, d1, if_false]
      exact fin _
    · have d1 : (2 : Int32) ≤ nI k := nI_le (a := 2) (by omega) (by omega)
      by_cases c2 : k < 5
      · have d2 : ¬ (5 : Int32) ≤ nI k := nI_ge (b := 5) c2 (by decide)
        simp only [eL_law_154, eL_law_156, eL_law_157, eL_law_164, eL_law_166, eL_law_167, eL_law_170, eL_law_171, eL_law_176, d1, d2, if_true, if_false]
        exact fin _
      · have d2 : (5 : Int32) ≤ nI k := nI_le (a := 5) (by omega) (by omega)
        simp only [eL_law_154, eL_law_156, eL_law_157, eL_law_164, eL_law_166, eL_law_167, eL_law_174, eL_law_176, d1, d2, if_true]
        exact fin _
theorem l_law2 (hL : L < 2 ^ 31) {m : Nat} (hm : m ≤ 70) : ∀ (q k : Nat), k + q = m → ∀ (M : m_Mem) (c : Nat), y_VV M L c → c + 31 * q < 90000 → ∃ M2 c',
    m_E 116 231 [some (.ref (m_lc 26 0 0)), some (.ref (m_lc 1 0 0)), some (.ref (m_lc 16 0 0)), some (.ref (m_lc 17 0 0)), some (.ref (m_lc 18 0 0)), some (.ref (m_lc 19 0 0)), some (.int 1), some (.int (nI m)), some (.int (nI k))] [] M = m_E 116 298 [some (.ref (m_lc 26 0 0)), some (.ref (m_lc 1 0 0)), some (.ref (m_lc 16 0 0)), some (.ref (m_lc 17 0 0)), some (.ref (m_lc 18 0 0)), some (.ref (m_lc 19 0 0)), some (.int 1), some (.int (nI m)), some (.int (nI m))] [] M2 ∧ y_VV M2 L c' ∧ c' ≤ c + 31 * q := by
  intro q
  induction q with
  | zero =>
    intro k hk M c h hcn
    have e : k = m := by omega
    subst e
    have hle : nI k ≤ nI k := nI_le (Nat.le_refl _) (by omega)
    refine ⟨M, c, ?_, h, Nat.le_refl _⟩
    simp only [eL_law_231, eL_law_233, eL_law_235, hle, if_true]
  | succ q ih =>
    intro k hk M c h hcn
    have hle : ¬ nI m ≤ nI k := nI_ge (by omega) (by omega)
    have e8 : (8 : Int32) + nI k = nI (8 + k) := nI_add 8 k
    obtain ⟨v, hv⟩ := l_cell (y_VV27 h) hL (8 + k) (by omega)
    obtain ⟨M1, c1, l1, h1, h2⟩ := ll_acts h (by omega) (v ^^^ (7919 * nI k))
    obtain ⟨M2, c2, l2, h3, h4⟩ := ll_isSo h1 (by omega)
    obtain ⟨M3, c3, l3, h5, h6⟩ := ih (k + 1) (by omega) M2 c2 h3 (by omega)
    refine ⟨M3, c3, ?_, h5, by omega⟩
    rw [← l3]
    rw [eL_law_231]
    simp only [eL_law_233, eL_law_235, eL_law_238, eL_law_240, eL_law_243, eL_law_244, eL_law_245, eL_law_246, eL_law_248, eL_law_250, eL_law_251, eL_law_253, eL_law_255, eL_law_256, eL_law_259, eL_law_262, eL_law_264, eL_law_265, eL_law_266, eL_law_269, hle, e8, hv, l1, m_cE_i, m_kill, (by decide : ¬ (1 : Int32) = 0), if_false]
    simp only [eL_law_272, eL_law_273, eL_law_274, eL_law_275, eL_law_277, eL_law_279, eL_law_282, eL_law_285, eL_law_286, eL_law_289, eL_law_290, eL_law_292, eL_law_295, l2, nI_1, m_cE_i, m_kill, (by decide : ¬ (1 : Int32) = 0), if_false]
theorem l_law (hL : L < 2 ^ 31) {n N B : Nat} (h : y_V M L n N B 0) (h0 : M 16 0 0 0 = 0) (v6 : Option Value) : ∃ M2 c',
    m_E 116 98 [some (.ref (m_lc 26 0 0)), some (.ref (m_lc 1 0 0)), some (.ref (m_lc 16 0 0)), some (.ref (m_lc 17 0 0)), some (.ref (m_lc 18 0 0)), some (.ref (m_lc 19 0 0)), v6, none, none] [] M = some (.inl (some (.int 1)), M2) ∧ M2 28 0 0 0 = nI c' ∧ c' ≤ 3000 := by
  have q0 : m_cl 95 [.ref (m_lc 1 0 0), .int 0] M = some (.inl (some (.int (k_num (y_K M) n N B 0))), M) := q_k h (k := 0) (by decide)
  have e0 : k_num (y_K M) n N B 0 = 0 := (y_16 (M := M) (show 0 < 13 by decide)).trans h0
  rw [e0] at q0
  obtain ⟨M1, c1, l1, h1, h2⟩ := l_law1 hL none 7 0 (by omega) M 0 ⟨n, N, B, h⟩ (by omega)
  obtain ⟨M2, c2, l2, h3, h4⟩ := ll_isSo h1 (by omega)
  obtain ⟨v, hv⟩ := l_cell (y_VV27 h3) hL 0 (by omega)
  have hv : m_cl 100 [.ref (m_lc 26 0 0), .int 0] M2 = some (.inl (some (.int v)), M2) := hv
  obtain ⟨r, r1, r2⟩ := l_low (M := M2) v 56 (by decide) (by decide)
  have r2 : m_cl 101 [.int v, .int 56] M2 = some (.inl (some (.int (nI r))), M2) := r2
  have e14 : (14 : Int32) + nI r = nI (14 + r) := nI_add 14 r
  obtain ⟨M3, c3, l3, h5, h6⟩ := l_law2 hL (m := 14 + r) (by omega) (14 + r) 0 (by omega) M2 c2 h3 (by omega)
  obtain ⟨n3, N3, B3, h7⟩ := h5
  have k1 := q_kI h7 (by omega) 17 (by decide)
  have k2 := q_kI (y_bump h7) (by omega) (-1) (by decide)
  refine ⟨m_bump (m_bump M3), c3 + 1 + 1, ?_, (y_bump (y_bump h7)).2.2.2.1, by omega⟩
  simp only [eL_law_98, eL_law_99, eL_law_100, eL_law_103, eL_law_106, eL_law_107, eL_law_110, eL_law_111, eL_law_113, eL_law_114, q0, m_cE_i, m_kill, if_true]
  rw [show (0 : Int32) = nI 0 from rfl]
  refine Eq.trans l1 ?_
  simp only [eL_law_188, eL_law_190, eL_law_193, eL_law_194, eL_law_195, eL_law_196, eL_law_198, eL_law_200, eL_law_203, eL_law_206, eL_law_207, eL_law_210, eL_law_211, l2, m_cE_i, m_kill, (by decide : ¬ (1 : Int32) = 0), if_false]
  simp only [eL_law_213, eL_law_215, eL_law_216, eL_law_217, eL_law_220, eL_law_222, eL_law_225, eL_law_226, eL_law_228, eL_law_229, hv, r2, e14, m_cE_i, m_kill]
  rw [show (0 : Int32) = nI 0 from rfl]
  refine Eq.trans l3 ?_
  simp only [eL_law_298, eL_law_300, eL_law_303, eL_law_304, eL_law_306, eL_law_309, eL_law_311, eL_law_314, eL_law_315, eL_law_316, eL_law_319, eL_law_321, eL_law_324, eL_law_325, eL_law_328, eL_law_329, k1, k2, m_cE_i, m_nok11, (by decide : ¬ (1 : Int32) = 0), if_true, if_false]
end LAW
