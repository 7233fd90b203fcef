/-! THE LAW's helpers and arms (by wip/gen/g74.py). -/
theorem lg_self (x : Int64) : lg_cmp x x = 0 := by
  unfold lg_cmp
  rw [if_neg (Int64.lt_irrefl), if_pos rfl]
section ARMS
variable {M : m_Mem} {n N B L S i : Nat}
/-- what the helper H makes of both calls -/
theorem z_h {X Y H : Nat} {as asm asH : List Value} {f : String → Option Int32} (hz : z_S X Y as asm M f) (hv : ∀ v M1, m_cl X as M = some (.inl (some (.int v)), M1) → m_cl H asH M = some (.inl (some (.int 0)), m_set M1 22 0 0 0 v))
    (hx : ∀ E k, m_cl X as M = some (.inr E, M) → f E = some k → m_cl H asH M = some (.inl (some (.int k)), m_bump M)) :
    ∃ k0 K b M2, m_cl H asH M = some (.inl (some (.int k0)), K) ∧ (∀ a b c k, a = 26 ∨ a = 27 → K a b c k = M a b c k) ∧ m_cl Y asm K = some (.inl (some (.int b)), M2) ∧ M2 15 0 0 5 = k0 ∧ (k0 ≠ 0 ∨ M2 22 0 0 0 = b) ∧ z_ok M M2 ∧ (M2 28 0 0 0 = M 28 0 0 0 ∨ M2 28 0 0 0 = M 28 0 0 0 + 1) := by
  rcases hz with ⟨v, M1, M2, e1, e2, e3, e4, e5, e6, e7⟩ | ⟨E, num, b, M2, e1, e2, e3, e4, e5, e6, e7⟩
  · exact ⟨0, _, v, M2, hv v M1 e1, fun a b c k h => by rw [m_set_n (by omega), e7 _ _ _ _ (by omega)], e2, e3, Or.inr e4, e6, Or.inl e5⟩
  · exact ⟨num, _, b, M2, hx E num e1 e2, fun a b c k h => m_bump_o _ _ _ _ _ (by omega), e4, e5, Or.inl e3, e7, Or.inr e6⟩
theorem x_in {K : m_Mem} (hs : K 27 0 0 0 = nI S) (hS : S < 2 ^ 31) (hi : i < S) : m_in (nI i) (K 27 0 0 0).toNatClampNeg = true := by
  rw [hs, nI_clamp hS]
  exact m_in_n hi hS
/-- an arm's end: what it needs of the law's own -/
def x_ok (M : m_Mem) (i pc : Nat) : Prop := ∀ l5 l6 l7 l8 : Option Value, ∃ l5' l6' l7' l8' M2, m_E 203 pc [some (.ref (m_lc 26 0 0)), some (.ref (m_lc 1 0 0)), some (.ref (m_lc 15 0 0)), some (.ref (m_lc 22 0 0)), some (.int (nI i)), l5, l6, l7, l8] [] M = m_E 203 1563 [some (.ref (m_lc 26 0 0)), some (.ref (m_lc 1 0 0)), some (.ref (m_lc 15 0 0)), some (.ref (m_lc 22 0 0)), some (.int (nI i)), l5', l6', l7', l8'] [] M2 ∧ z_ok M M2 ∧ (M2 28 0 0 0 = M 28 0 0 0 ∨ M2 28 0 0 0 = M 28 0 0 0 + 1)

theorem y_digger_v {v : Int32} {M1 : m_Mem} (h : m_cl 63 [.ref (m_lc 1 0 0)] M = some (.inl (some (.int v)), M1)) : m_cl 181 [.ref (m_lc 1 0 0), .ref (m_lc 22 0 0)] M = some (.inl (some (.int 0)), m_set M1 22 0 0 0 v) := by
  rw [eL_digger_en]
  simp only [eL_digger_0, eL_digger_1, eL_digger_2, eL_digger_3, eL_digger_6, eL_digger_7, eL_digger_8, eL_digger_14, eL_digger_15, h, m_kill, m_cE_i, m_cE_v, m_cE_ite, m_kill]
theorem y_digger_x {E : String} {k : Int32} (hc : 0 ≤ M 28 0 0 0 ∧ M 28 0 0 0 < 100000) (h : m_cl 63 [.ref (m_lc 1 0 0)] M = some (.inr E, M)) (hk : m_hk (181 * 65536 + 6) E = some k) : m_cl 181 [.ref (m_lc 1 0 0), .ref (m_lc 22 0 0)] M = some (.inl (some (.int k)), m_bump M) := by
  rw [eL_digger_en]
  simp only [eL_digger_0, eL_digger_1, eL_digger_2, eL_digger_3, h]
  exact m_cE_x hk hc

theorem x_digger (hT : r_T M M n N B L) (hc : 0 ≤ M 28 0 0 0 ∧ M 28 0 0 0 < 100000) (hs : M 27 0 0 0 = nI S) (hS : S < 2 ^ 31) (hi : i + 2 < S) : x_ok M i 164 := by
  intro l5 l6 l7 l8
  obtain ⟨k0, K, b, M2, h1, kf, h2, h3, h4, h5, h6⟩ := z_h (H := 181) (asH := [.ref (m_lc 1 0 0), .ref (m_lc 22 0 0)]) (z_digger (f := m_hk (181 * 65536 + 6)) hT (by decide +kernel)) (fun v M1 h => y_digger_v h) (fun E k h hk => y_digger_x hc h hk)
  refine ⟨some (.int k0), some (.int b), l7, l8, M2, ?_, h5, h6⟩
  by_cases hk : k0 = 0
  · have h4' := h4.resolve_left (fun z => z hk)
    simp only [eL_law_164, eL_law_165, eL_law_166, eL_law_169, eL_law_171, eL_law_172, eL_law_175, eL_law_177, eL_law_178, eL_law_181, eL_law_183, eL_law_186, eL_law_187, eL_law_188, eL_law_190, eL_law_193, eL_law_194, eL_law_195, eL_law_196, eL_law_198, eL_law_199, eL_law_200, eL_law_203, eL_law_204, eL_law_205, h1, h2, h3, h4', hk, g_thrown, lg_self, m_kill, m_cE_i, m_cE_v, m_cE_ite, m_kill, if_true]
  · simp only [eL_law_164, eL_law_165, eL_law_166, eL_law_169, eL_law_171, eL_law_172, eL_law_175, eL_law_177, eL_law_178, eL_law_181, eL_law_183, eL_law_186, eL_law_187, eL_law_188, eL_law_190, eL_law_193, eL_law_194, eL_law_195, eL_law_196, eL_law_198, eL_law_199, eL_law_200, eL_law_203, eL_law_204, eL_law_205, h1, h2, h3, hk, g_thrown, m_kill, m_cE_i, m_cE_v, m_cE_ite, m_kill, if_true, if_false]

theorem y_stake_v (a b : Int32) {v : Int32} {M1 : m_Mem} (h : m_cl 64 [.ref (m_lc 1 0 0), .int a, .int b] M = some (.inl (some (.int v)), M1)) : m_cl 182 [.ref (m_lc 1 0 0), .int a, .int b, .ref (m_lc 22 0 0)] M = some (.inl (some (.int 0)), m_set M1 22 0 0 0 v) := by
  rw [eL_stake_en]
  simp only [eL_stake_0, eL_stake_1, eL_stake_2, eL_stake_3, eL_stake_4, eL_stake_5, eL_stake_8, eL_stake_9, eL_stake_10, eL_stake_25, eL_stake_26, h, m_kill, m_cE_i, m_cE_v, m_cE_ite, m_kill]
theorem y_stake_x (a b : Int32) {E : String} {k : Int32} (hc : 0 ≤ M 28 0 0 0 ∧ M 28 0 0 0 < 100000) (h : m_cl 64 [.ref (m_lc 1 0 0), .int a, .int b] M = some (.inr E, M)) (hk : m_hk (182 * 65536 + 8) E = some k) : m_cl 182 [.ref (m_lc 1 0 0), .int a, .int b, .ref (m_lc 22 0 0)] M = some (.inl (some (.int k)), m_bump M) := by
  rw [eL_stake_en]
  simp only [eL_stake_0, eL_stake_1, eL_stake_2, eL_stake_3, eL_stake_4, eL_stake_5, h]
  exact m_cE_x hk hc

theorem x_stake (hT : r_T M M n N B L) (hc : 0 ≤ M 28 0 0 0 ∧ M 28 0 0 0 < 100000) (hs : M 27 0 0 0 = nI S) (hS : S < 2 ^ 31) (hi : i + 2 < S) : x_ok M i 208 := by
  intro l5 l6 l7 l8
  obtain ⟨k0, K, b, M2, h1, kf, h2, h3, h4, h5, h6⟩ := z_h (H := 182) (asH := [.ref (m_lc 1 0 0), .int (M 26 0 0 (i + 1)), .int (M 26 0 0 (i + 2)), .ref (m_lc 22 0 0)]) (z_stake (f := m_hk (182 * 65536 + 8)) hT (by decide +kernel) (by decide +kernel) (by decide +kernel) (M 26 0 0 (i + 1)) (M 26 0 0 (i + 2))) (fun v M1 h => y_stake_v _ _ h) (fun E k h hk => y_stake_x _ _ hc h hk)
  have i1 := x_in (i := i + 1) hs hS (by omega)
  have j1 := x_in (i := i + 1) (K := K) (by rw [kf _ _ _ _ (Or.inr rfl)]; exact hs) hS (by omega)
  have c1 : (nI (i + 1)).toNatClampNeg = i + 1 := nI_clamp (by omega)
  have k1 : K 26 0 0 (i + 1) = M 26 0 0 (i + 1) := kf _ _ _ _ (Or.inl rfl)
  have i2 := x_in (i := i + 2) hs hS (by omega)
  have j2 := x_in (i := i + 2) (K := K) (by rw [kf _ _ _ _ (Or.inr rfl)]; exact hs) hS (by omega)
  have c2 : (nI (i + 2)).toNatClampNeg = i + 2 := nI_clamp (by omega)
  have k2 : K 26 0 0 (i + 2) = M 26 0 0 (i + 2) := kf _ _ _ _ (Or.inl rfl)
  have a2 : nI i + 2 = nI (i + 2) := nI_add i 2
  refine ⟨some (.int k0), some (.int b), l7, l8, M2, ?_, h5, h6⟩
  by_cases hk : k0 = 0
  · have h4' := h4.resolve_left (fun z => z hk)
    simp only [eL_law_208, eL_law_209, eL_law_210, eL_law_212, eL_law_213, eL_law_214, eL_law_215, eL_law_216, eL_law_218, eL_law_219, eL_law_220, eL_law_221, eL_law_222, eL_law_225, eL_law_227, eL_law_228, eL_law_229, eL_law_231, eL_law_232, eL_law_233, eL_law_234, eL_law_235, eL_law_237, eL_law_238, eL_law_239, eL_law_240, eL_law_243, eL_law_245, eL_law_246, eL_law_249, eL_law_251, eL_law_254, eL_law_255, eL_law_256, eL_law_258, eL_law_261, eL_law_262, eL_law_263, eL_law_264, eL_law_266, eL_law_267, eL_law_268, eL_law_271, eL_law_272, eL_law_273, i1, j1, c1, k1, nI_1, i2, j2, c2, k2, a2, h1, h2, h3, h4', hk, g_thrown, lg_self, m_kill, m_cE_i, m_cE_v, m_cE_ite, m_kill, if_true]
  · simp only [eL_law_208, eL_law_209, eL_law_210, eL_law_212, eL_law_213, eL_law_214, eL_law_215, eL_law_216, eL_law_218, eL_law_219, eL_law_220, eL_law_221, eL_law_222, eL_law_225, eL_law_227, eL_law_228, eL_law_229, eL_law_231, eL_law_232, eL_law_233, eL_law_234, eL_law_235, eL_law_237, eL_law_238, eL_law_239, eL_law_240, eL_law_243, eL_law_245, eL_law_246, eL_law_249, eL_law_251, eL_law_254, eL_law_255, eL_law_256, eL_law_258, eL_law_261, eL_law_262, eL_law_263, eL_law_264, eL_law_266, eL_law_267, eL_law_268, eL_law_271, eL_law_272, eL_law_273, i1, j1, c1, k1, nI_1, i2, j2, c2, k2, a2, h1, h2, h3, hk, g_thrown, m_kill, m_cE_i, m_cE_v, m_cE_ite, m_kill, if_true, if_false]

theorem y_leave_v (a : Int32) {v : Int32} {M1 : m_Mem} (h : m_cl 65 [.ref (m_lc 1 0 0), .int a] M = some (.inl (some (.int v)), M1)) : m_cl 183 [.ref (m_lc 1 0 0), .int a, .ref (m_lc 22 0 0)] M = some (.inl (some (.int 0)), m_set M1 22 0 0 0 v) := by
  rw [eL_leave_en]
  simp only [eL_leave_0, eL_leave_1, eL_leave_2, eL_leave_3, eL_leave_4, eL_leave_7, eL_leave_8, eL_leave_9, eL_leave_18, eL_leave_19, h, m_kill, m_cE_i, m_cE_v, m_cE_ite, m_kill]
theorem y_leave_x (a : Int32) {E : String} {k : Int32} (hc : 0 ≤ M 28 0 0 0 ∧ M 28 0 0 0 < 100000) (h : m_cl 65 [.ref (m_lc 1 0 0), .int a] M = some (.inr E, M)) (hk : m_hk (183 * 65536 + 7) E = some k) : m_cl 183 [.ref (m_lc 1 0 0), .int a, .ref (m_lc 22 0 0)] M = some (.inl (some (.int k)), m_bump M) := by
  rw [eL_leave_en]
  simp only [eL_leave_0, eL_leave_1, eL_leave_2, eL_leave_3, eL_leave_4, h]
  exact m_cE_x hk hc

theorem x_leave (hT : r_T M M n N B L) (hc : 0 ≤ M 28 0 0 0 ∧ M 28 0 0 0 < 100000) (hs : M 27 0 0 0 = nI S) (hS : S < 2 ^ 31) (hi : i + 2 < S) : x_ok M i 276 := by
  intro l5 l6 l7 l8
  obtain ⟨k0, K, b, M2, h1, kf, h2, h3, h4, h5, h6⟩ := z_h (H := 183) (asH := [.ref (m_lc 1 0 0), .int (M 26 0 0 (i + 1)), .ref (m_lc 22 0 0)]) (z_leave (f := m_hk (183 * 65536 + 7)) hT (by decide +kernel) (by decide +kernel) (M 26 0 0 (i + 1))) (fun v M1 h => y_leave_v _ h) (fun E k h hk => y_leave_x _ hc h hk)
  have i1 := x_in (i := i + 1) hs hS (by omega)
  have j1 := x_in (i := i + 1) (K := K) (by rw [kf _ _ _ _ (Or.inr rfl)]; exact hs) hS (by omega)
  have c1 : (nI (i + 1)).toNatClampNeg = i + 1 := nI_clamp (by omega)
  have k1 : K 26 0 0 (i + 1) = M 26 0 0 (i + 1) := kf _ _ _ _ (Or.inl rfl)
  refine ⟨some (.int k0), some (.int b), l7, l8, M2, ?_, h5, h6⟩
  by_cases hk : k0 = 0
  · have h4' := h4.resolve_left (fun z => z hk)
    simp only [eL_law_276, eL_law_277, eL_law_278, eL_law_280, eL_law_281, eL_law_282, eL_law_283, eL_law_284, eL_law_287, eL_law_289, eL_law_290, eL_law_291, eL_law_293, eL_law_294, eL_law_295, eL_law_296, eL_law_299, eL_law_301, eL_law_302, eL_law_305, eL_law_307, eL_law_310, eL_law_311, eL_law_312, eL_law_314, eL_law_317, eL_law_318, eL_law_319, eL_law_320, eL_law_322, eL_law_323, eL_law_324, eL_law_327, eL_law_328, eL_law_329, i1, j1, c1, k1, nI_1, h1, h2, h3, h4', hk, g_thrown, lg_self, m_kill, m_cE_i, m_cE_v, m_cE_ite, m_kill, if_true]
  · simp only [eL_law_276, eL_law_277, eL_law_278, eL_law_280, eL_law_281, eL_law_282, eL_law_283, eL_law_284, eL_law_287, eL_law_289, eL_law_290, eL_law_291, eL_law_293, eL_law_294, eL_law_295, eL_law_296, eL_law_299, eL_law_301, eL_law_302, eL_law_305, eL_law_307, eL_law_310, eL_law_311, eL_law_312, eL_law_314, eL_law_317, eL_law_318, eL_law_319, eL_law_320, eL_law_322, eL_law_323, eL_law_324, eL_law_327, eL_law_328, eL_law_329, i1, j1, c1, k1, nI_1, h1, h2, h3, hk, g_thrown, m_kill, m_cE_i, m_cE_v, m_cE_ite, m_kill, if_true, if_false]

theorem y_vein_v (a b : Int32) {v : Int32} {M1 : m_Mem} (h : m_cl 66 [.ref (m_lc 1 0 0), .int a, .int b] M = some (.inl (some (.int v)), M1)) : m_cl 184 [.ref (m_lc 1 0 0), .int a, .int b, .ref (m_lc 22 0 0)] M = some (.inl (some (.int 0)), m_set M1 22 0 0 0 v) := by
  rw [eL_vein_en]
  simp only [eL_vein_0, eL_vein_1, eL_vein_2, eL_vein_3, eL_vein_4, eL_vein_5, eL_vein_8, eL_vein_9, eL_vein_10, eL_vein_17, eL_vein_18, h, m_kill, m_cE_i, m_cE_v, m_cE_ite, m_kill]
theorem y_vein_x (a b : Int32) {E : String} {k : Int32} (hc : 0 ≤ M 28 0 0 0 ∧ M 28 0 0 0 < 100000) (h : m_cl 66 [.ref (m_lc 1 0 0), .int a, .int b] M = some (.inr E, M)) (hk : m_hk (184 * 65536 + 8) E = some k) : m_cl 184 [.ref (m_lc 1 0 0), .int a, .int b, .ref (m_lc 22 0 0)] M = some (.inl (some (.int k)), m_bump M) := by
  rw [eL_vein_en]
  simp only [eL_vein_0, eL_vein_1, eL_vein_2, eL_vein_3, eL_vein_4, eL_vein_5, h]
  exact m_cE_x hk hc

theorem x_vein (hT : r_T M M n N B L) (hc : 0 ≤ M 28 0 0 0 ∧ M 28 0 0 0 < 100000) (hs : M 27 0 0 0 = nI S) (hS : S < 2 ^ 31) (hi : i + 2 < S) : x_ok M i 332 := by
  intro l5 l6 l7 l8
  obtain ⟨k0, K, b, M2, h1, kf, h2, h3, h4, h5, h6⟩ := z_h (H := 184) (asH := [.ref (m_lc 1 0 0), .int (M 26 0 0 (i + 1)), .int (M 26 0 0 (i + 2)), .ref (m_lc 22 0 0)]) (z_vein (f := m_hk (184 * 65536 + 8)) hT (by decide +kernel) (M 26 0 0 (i + 1)) (M 26 0 0 (i + 2))) (fun v M1 h => y_vein_v _ _ h) (fun E k h hk => y_vein_x _ _ hc h hk)
  have i1 := x_in (i := i + 1) hs hS (by omega)
  have j1 := x_in (i := i + 1) (K := K) (by rw [kf _ _ _ _ (Or.inr rfl)]; exact hs) hS (by omega)
  have c1 : (nI (i + 1)).toNatClampNeg = i + 1 := nI_clamp (by omega)
  have k1 : K 26 0 0 (i + 1) = M 26 0 0 (i + 1) := kf _ _ _ _ (Or.inl rfl)
  have i2 := x_in (i := i + 2) hs hS (by omega)
  have j2 := x_in (i := i + 2) (K := K) (by rw [kf _ _ _ _ (Or.inr rfl)]; exact hs) hS (by omega)
  have c2 : (nI (i + 2)).toNatClampNeg = i + 2 := nI_clamp (by omega)
  have k2 : K 26 0 0 (i + 2) = M 26 0 0 (i + 2) := kf _ _ _ _ (Or.inl rfl)
  have a2 : nI i + 2 = nI (i + 2) := nI_add i 2
  refine ⟨some (.int k0), some (.int b), l7, l8, M2, ?_, h5, h6⟩
  by_cases hk : k0 = 0
  · have h4' := h4.resolve_left (fun z => z hk)
    simp only [eL_law_332, eL_law_333, eL_law_334, eL_law_336, eL_law_337, eL_law_338, eL_law_339, eL_law_340, eL_law_342, eL_law_343, eL_law_344, eL_law_345, eL_law_346, eL_law_349, eL_law_351, eL_law_352, eL_law_353, eL_law_355, eL_law_356, eL_law_357, eL_law_358, eL_law_359, eL_law_361, eL_law_362, eL_law_363, eL_law_364, eL_law_367, eL_law_369, eL_law_370, eL_law_373, eL_law_375, eL_law_378, eL_law_379, eL_law_380, eL_law_382, eL_law_385, eL_law_386, eL_law_387, eL_law_388, eL_law_390, eL_law_391, eL_law_392, eL_law_395, eL_law_396, eL_law_397, i1, j1, c1, k1, nI_1, i2, j2, c2, k2, a2, h1, h2, h3, h4', hk, g_thrown, lg_self, m_kill, m_cE_i, m_cE_v, m_cE_ite, m_kill, if_true]
  · simp only [eL_law_332, eL_law_333, eL_law_334, eL_law_336, eL_law_337, eL_law_338, eL_law_339, eL_law_340, eL_law_342, eL_law_343, eL_law_344, eL_law_345, eL_law_346, eL_law_349, eL_law_351, eL_law_352, eL_law_353, eL_law_355, eL_law_356, eL_law_357, eL_law_358, eL_law_359, eL_law_361, eL_law_362, eL_law_363, eL_law_364, eL_law_367, eL_law_369, eL_law_370, eL_law_373, eL_law_375, eL_law_378, eL_law_379, eL_law_380, eL_law_382, eL_law_385, eL_law_386, eL_law_387, eL_law_388, eL_law_390, eL_law_391, eL_law_392, eL_law_395, eL_law_396, eL_law_397, i1, j1, c1, k1, nI_1, i2, j2, c2, k2, a2, h1, h2, h3, hk, g_thrown, m_kill, m_cE_i, m_cE_v, m_cE_ite, m_kill, if_true, if_false]

theorem y_weigh_v (a b : Int32) {v : Int32} {M1 : m_Mem} (h : m_cl 67 [.ref (m_lc 1 0 0), .int a, .int b] M = some (.inl (some (.int v)), M1)) : m_cl 185 [.ref (m_lc 1 0 0), .int a, .int b, .ref (m_lc 22 0 0)] M = some (.inl (some (.int 0)), m_set M1 22 0 0 0 v) := by
  rw [eL_weigh_en]
  simp only [eL_weigh_0, eL_weigh_1, eL_weigh_2, eL_weigh_3, eL_weigh_4, eL_weigh_5, eL_weigh_8, eL_weigh_9, eL_weigh_10, eL_weigh_25, eL_weigh_26, h, m_kill, m_cE_i, m_cE_v, m_cE_ite, m_kill]
theorem y_weigh_x (a b : Int32) {E : String} {k : Int32} (hc : 0 ≤ M 28 0 0 0 ∧ M 28 0 0 0 < 100000) (h : m_cl 67 [.ref (m_lc 1 0 0), .int a, .int b] M = some (.inr E, M)) (hk : m_hk (185 * 65536 + 8) E = some k) : m_cl 185 [.ref (m_lc 1 0 0), .int a, .int b, .ref (m_lc 22 0 0)] M = some (.inl (some (.int k)), m_bump M) := by
  rw [eL_weigh_en]
  simp only [eL_weigh_0, eL_weigh_1, eL_weigh_2, eL_weigh_3, eL_weigh_4, eL_weigh_5, h]
  exact m_cE_x hk hc

theorem x_weigh (hT : r_T M M n N B L) (hc : 0 ≤ M 28 0 0 0 ∧ M 28 0 0 0 < 100000) (hs : M 27 0 0 0 = nI S) (hS : S < 2 ^ 31) (hi : i + 2 < S) : x_ok M i 400 := by
  intro l5 l6 l7 l8
  obtain ⟨k0, K, b, M2, h1, kf, h2, h3, h4, h5, h6⟩ := z_h (H := 185) (asH := [.ref (m_lc 1 0 0), .int (M 26 0 0 (i + 1)), .int (M 26 0 0 (i + 2)), .ref (m_lc 22 0 0)]) (z_weigh (f := m_hk (185 * 65536 + 8)) hT (by decide +kernel) (by decide +kernel) (by decide +kernel) (M 26 0 0 (i + 1)) (M 26 0 0 (i + 2))) (fun v M1 h => y_weigh_v _ _ h) (fun E k h hk => y_weigh_x _ _ hc h hk)
  have i1 := x_in (i := i + 1) hs hS (by omega)
  have j1 := x_in (i := i + 1) (K := K) (by rw [kf _ _ _ _ (Or.inr rfl)]; exact hs) hS (by omega)
  have c1 : (nI (i + 1)).toNatClampNeg = i + 1 := nI_clamp (by omega)
  have k1 : K 26 0 0 (i + 1) = M 26 0 0 (i + 1) := kf _ _ _ _ (Or.inl rfl)
  have i2 := x_in (i := i + 2) hs hS (by omega)
  have j2 := x_in (i := i + 2) (K := K) (by rw [kf _ _ _ _ (Or.inr rfl)]; exact hs) hS (by omega)
  have c2 : (nI (i + 2)).toNatClampNeg = i + 2 := nI_clamp (by omega)
  have k2 : K 26 0 0 (i + 2) = M 26 0 0 (i + 2) := kf _ _ _ _ (Or.inl rfl)
  have a2 : nI i + 2 = nI (i + 2) := nI_add i 2
  refine ⟨some (.int k0), some (.int b), l7, l8, M2, ?_, h5, h6⟩
  by_cases hk : k0 = 0
  · have h4' := h4.resolve_left (fun z => z hk)
    simp only [eL_law_400, eL_law_401, eL_law_402, eL_law_404, eL_law_405, eL_law_406, eL_law_407, eL_law_408, eL_law_410, eL_law_411, eL_law_412, eL_law_413, eL_law_414, eL_law_417, eL_law_419, eL_law_420, eL_law_421, eL_law_423, eL_law_424, eL_law_425, eL_law_426, eL_law_427, eL_law_429, eL_law_430, eL_law_431, eL_law_432, eL_law_435, eL_law_437, eL_law_438, eL_law_441, eL_law_443, eL_law_446, eL_law_447, eL_law_448, eL_law_450, eL_law_453, eL_law_454, eL_law_455, eL_law_456, eL_law_458, eL_law_459, eL_law_460, eL_law_463, eL_law_464, eL_law_465, i1, j1, c1, k1, nI_1, i2, j2, c2, k2, a2, h1, h2, h3, h4', hk, g_thrown, lg_self, m_kill, m_cE_i, m_cE_v, m_cE_ite, m_kill, if_true]
  · simp only [eL_law_400, eL_law_401, eL_law_402, eL_law_404, eL_law_405, eL_law_406, eL_law_407, eL_law_408, eL_law_410, eL_law_411, eL_law_412, eL_law_413, eL_law_414, eL_law_417, eL_law_419, eL_law_420, eL_law_421, eL_law_423, eL_law_424, eL_law_425, eL_law_426, eL_law_427, eL_law_429, eL_law_430, eL_law_431, eL_law_432, eL_law_435, eL_law_437, eL_law_438, eL_law_441, eL_law_443, eL_law_446, eL_law_447, eL_law_448, eL_law_450, eL_law_453, eL_law_454, eL_law_455, eL_law_456, eL_law_458, eL_law_459, eL_law_460, eL_law_463, eL_law_464, eL_law_465, i1, j1, c1, k1, nI_1, i2, j2, c2, k2, a2, h1, h2, h3, hk, g_thrown, m_kill, m_cE_i, m_cE_v, m_cE_ite, m_kill, if_true, if_false]

theorem y_buy_v (a b : Int32) {v : Int32} {M1 : m_Mem} (h : m_cl 68 [.ref (m_lc 1 0 0), .int a, .int b] M = some (.inl (some (.int v)), M1)) : m_cl 186 [.ref (m_lc 1 0 0), .int a, .int b, .ref (m_lc 22 0 0)] M = some (.inl (some (.int 0)), m_set M1 22 0 0 0 v) := by
  rw [eL_buy_en]
  simp only [eL_buy_0, eL_buy_1, eL_buy_2, eL_buy_3, eL_buy_4, eL_buy_5, eL_buy_8, eL_buy_9, eL_buy_10, eL_buy_25, eL_buy_26, h, m_kill, m_cE_i, m_cE_v, m_cE_ite, m_kill]
theorem y_buy_x (a b : Int32) {E : String} {k : Int32} (hc : 0 ≤ M 28 0 0 0 ∧ M 28 0 0 0 < 100000) (h : m_cl 68 [.ref (m_lc 1 0 0), .int a, .int b] M = some (.inr E, M)) (hk : m_hk (186 * 65536 + 8) E = some k) : m_cl 186 [.ref (m_lc 1 0 0), .int a, .int b, .ref (m_lc 22 0 0)] M = some (.inl (some (.int k)), m_bump M) := by
  rw [eL_buy_en]
  simp only [eL_buy_0, eL_buy_1, eL_buy_2, eL_buy_3, eL_buy_4, eL_buy_5, h]
  exact m_cE_x hk hc

theorem x_buy (hT : r_T M M n N B L) (hc : 0 ≤ M 28 0 0 0 ∧ M 28 0 0 0 < 100000) (hs : M 27 0 0 0 = nI S) (hS : S < 2 ^ 31) (hi : i + 2 < S) : x_ok M i 468 := by
  intro l5 l6 l7 l8
  obtain ⟨k0, K, b, M2, h1, kf, h2, h3, h4, h5, h6⟩ := z_h (H := 186) (asH := [.ref (m_lc 1 0 0), .int (M 26 0 0 (i + 1)), .int (M 26 0 0 (i + 2)), .ref (m_lc 22 0 0)]) (z_buy (f := m_hk (186 * 65536 + 8)) hT (by decide +kernel) (by decide +kernel) (by decide +kernel) (M 26 0 0 (i + 1)) (M 26 0 0 (i + 2))) (fun v M1 h => y_buy_v _ _ h) (fun E k h hk => y_buy_x _ _ hc h hk)
  have i1 := x_in (i := i + 1) hs hS (by omega)
  have j1 := x_in (i := i + 1) (K := K) (by rw [kf _ _ _ _ (Or.inr rfl)]; exact hs) hS (by omega)
  have c1 : (nI (i + 1)).toNatClampNeg = i + 1 := nI_clamp (by omega)
  have k1 : K 26 0 0 (i + 1) = M 26 0 0 (i + 1) := kf _ _ _ _ (Or.inl rfl)
  have i2 := x_in (i := i + 2) hs hS (by omega)
  have j2 := x_in (i := i + 2) (K := K) (by rw [kf _ _ _ _ (Or.inr rfl)]; exact hs) hS (by omega)
  have c2 : (nI (i + 2)).toNatClampNeg = i + 2 := nI_clamp (by omega)
  have k2 : K 26 0 0 (i + 2) = M 26 0 0 (i + 2) := kf _ _ _ _ (Or.inl rfl)
  have a2 : nI i + 2 = nI (i + 2) := nI_add i 2
  refine ⟨some (.int k0), some (.int b), l7, l8, M2, ?_, h5, h6⟩
  by_cases hk : k0 = 0
  · have h4' := h4.resolve_left (fun z => z hk)
    simp only [eL_law_468, eL_law_469, eL_law_470, eL_law_472, eL_law_473, eL_law_474, eL_law_475, eL_law_476, eL_law_478, eL_law_479, eL_law_480, eL_law_481, eL_law_482, eL_law_485, eL_law_487, eL_law_488, eL_law_489, eL_law_491, eL_law_492, eL_law_493, eL_law_494, eL_law_495, eL_law_497, eL_law_498, eL_law_499, eL_law_500, eL_law_503, eL_law_505, eL_law_506, eL_law_509, eL_law_511, eL_law_514, eL_law_515, eL_law_516, eL_law_518, eL_law_521, eL_law_522, eL_law_523, eL_law_524, eL_law_526, eL_law_527, eL_law_528, eL_law_531, eL_law_532, eL_law_533, i1, j1, c1, k1, nI_1, i2, j2, c2, k2, a2, h1, h2, h3, h4', hk, g_thrown, lg_self, m_kill, m_cE_i, m_cE_v, m_cE_ite, m_kill, if_true]
  · simp only [eL_law_468, eL_law_469, eL_law_470, eL_law_472, eL_law_473, eL_law_474, eL_law_475, eL_law_476, eL_law_478, eL_law_479, eL_law_480, eL_law_481, eL_law_482, eL_law_485, eL_law_487, eL_law_488, eL_law_489, eL_law_491, eL_law_492, eL_law_493, eL_law_494, eL_law_495, eL_law_497, eL_law_498, eL_law_499, eL_law_500, eL_law_503, eL_law_505, eL_law_506, eL_law_509, eL_law_511, eL_law_514, eL_law_515, eL_law_516, eL_law_518, eL_law_521, eL_law_522, eL_law_523, eL_law_524, eL_law_526, eL_law_527, eL_law_528, eL_law_531, eL_law_532, eL_law_533, i1, j1, c1, k1, nI_1, i2, j2, c2, k2, a2, h1, h2, h3, hk, g_thrown, m_kill, m_cE_i, m_cE_v, m_cE_ite, m_kill, if_true, if_false]

theorem y_melt_v {v : Int32} {M1 : m_Mem} (h : m_cl 69 [.ref (m_lc 1 0 0)] M = some (.inl (some (.int v)), M1)) : m_cl 187 [.ref (m_lc 1 0 0), .ref (m_lc 22 0 0)] M = some (.inl (some (.int 0)), m_set M1 22 0 0 0 v) := by
  rw [eL_melt_en]
  simp only [eL_melt_0, eL_melt_1, eL_melt_2, eL_melt_3, eL_melt_6, eL_melt_7, eL_melt_8, eL_melt_14, eL_melt_15, h, m_kill, m_cE_i, m_cE_v, m_cE_ite, m_kill]
theorem y_melt_x {E : String} {k : Int32} (hc : 0 ≤ M 28 0 0 0 ∧ M 28 0 0 0 < 100000) (h : m_cl 69 [.ref (m_lc 1 0 0)] M = some (.inr E, M)) (hk : m_hk (187 * 65536 + 6) E = some k) : m_cl 187 [.ref (m_lc 1 0 0), .ref (m_lc 22 0 0)] M = some (.inl (some (.int k)), m_bump M) := by
  rw [eL_melt_en]
  simp only [eL_melt_0, eL_melt_1, eL_melt_2, eL_melt_3, h]
  exact m_cE_x hk hc

theorem x_melt (hT : r_T M M n N B L) (hc : 0 ≤ M 28 0 0 0 ∧ M 28 0 0 0 < 100000) (hs : M 27 0 0 0 = nI S) (hS : S < 2 ^ 31) (hi : i + 2 < S) : x_ok M i 536 := by
  intro l5 l6 l7 l8
  obtain ⟨k0, K, b, M2, h1, kf, h2, h3, h4, h5, h6⟩ := z_h (H := 187) (asH := [.ref (m_lc 1 0 0), .ref (m_lc 22 0 0)]) (z_meltc (f := m_hk (187 * 65536 + 6)) hT (by decide +kernel)) (fun v M1 h => y_melt_v h) (fun E k h hk => y_melt_x hc h hk)
  refine ⟨some (.int k0), some (.int b), l7, l8, M2, ?_, h5, h6⟩
  by_cases hk : k0 = 0
  · have h4' := h4.resolve_left (fun z => z hk)
    simp only [eL_law_536, eL_law_537, eL_law_538, eL_law_541, eL_law_543, eL_law_544, eL_law_547, eL_law_549, eL_law_550, eL_law_553, eL_law_555, eL_law_558, eL_law_559, eL_law_560, eL_law_562, eL_law_565, eL_law_566, eL_law_567, eL_law_568, eL_law_570, eL_law_571, eL_law_572, eL_law_575, eL_law_576, eL_law_577, h1, h2, h3, h4', hk, g_thrown, lg_self, m_kill, m_cE_i, m_cE_v, m_cE_ite, m_kill, if_true]
  · simp only [eL_law_536, eL_law_537, eL_law_538, eL_law_541, eL_law_543, eL_law_544, eL_law_547, eL_law_549, eL_law_550, eL_law_553, eL_law_555, eL_law_558, eL_law_559, eL_law_560, eL_law_562, eL_law_565, eL_law_566, eL_law_567, eL_law_568, eL_law_570, eL_law_571, eL_law_572, eL_law_575, eL_law_576, eL_law_577, h1, h2, h3, hk, g_thrown, m_kill, m_cE_i, m_cE_v, m_cE_ite, m_kill, if_true, if_false]

theorem y_adjust_v (a : Int32) {v : Int32} {M1 : m_Mem} (h : m_cl 70 [.ref (m_lc 1 0 0), .int a] M = some (.inl (some (.int v)), M1)) : m_cl 188 [.ref (m_lc 1 0 0), .int a, .ref (m_lc 22 0 0)] M = some (.inl (some (.int 0)), m_set M1 22 0 0 0 v) := by
  rw [eL_adjust_en]
  simp only [eL_adjust_0, eL_adjust_1, eL_adjust_2, eL_adjust_3, eL_adjust_4, eL_adjust_7, eL_adjust_8, eL_adjust_9, eL_adjust_15, eL_adjust_16, h, m_kill, m_cE_i, m_cE_v, m_cE_ite, m_kill]
theorem y_adjust_x (a : Int32) {E : String} {k : Int32} (hc : 0 ≤ M 28 0 0 0 ∧ M 28 0 0 0 < 100000) (h : m_cl 70 [.ref (m_lc 1 0 0), .int a] M = some (.inr E, M)) (hk : m_hk (188 * 65536 + 7) E = some k) : m_cl 188 [.ref (m_lc 1 0 0), .int a, .ref (m_lc 22 0 0)] M = some (.inl (some (.int k)), m_bump M) := by
  rw [eL_adjust_en]
  simp only [eL_adjust_0, eL_adjust_1, eL_adjust_2, eL_adjust_3, eL_adjust_4, h]
  exact m_cE_x hk hc

theorem x_adjust (hT : r_T M M n N B L) (hc : 0 ≤ M 28 0 0 0 ∧ M 28 0 0 0 < 100000) (hs : M 27 0 0 0 = nI S) (hS : S < 2 ^ 31) (hi : i + 2 < S) : x_ok M i 580 := by
  intro l5 l6 l7 l8
  obtain ⟨k0, K, b, M2, h1, kf, h2, h3, h4, h5, h6⟩ := z_h (H := 188) (asH := [.ref (m_lc 1 0 0), .int (M 26 0 0 (i + 1)), .ref (m_lc 22 0 0)]) (z_adjust (f := m_hk (188 * 65536 + 7)) hT (by decide +kernel) (M 26 0 0 (i + 1))) (fun v M1 h => y_adjust_v _ h) (fun E k h hk => y_adjust_x _ hc h hk)
  have i1 := x_in (i := i + 1) hs hS (by omega)
  have j1 := x_in (i := i + 1) (K := K) (by rw [kf _ _ _ _ (Or.inr rfl)]; exact hs) hS (by omega)
  have c1 : (nI (i + 1)).toNatClampNeg = i + 1 := nI_clamp (by omega)
  have k1 : K 26 0 0 (i + 1) = M 26 0 0 (i + 1) := kf _ _ _ _ (Or.inl rfl)
  refine ⟨some (.int k0), some (.int b), l7, l8, M2, ?_, h5, h6⟩
  by_cases hk : k0 = 0
  · have h4' := h4.resolve_left (fun z => z hk)
    simp only [eL_law_580, eL_law_581, eL_law_582, eL_law_584, eL_law_585, eL_law_586, eL_law_587, eL_law_588, eL_law_591, eL_law_593, eL_law_594, eL_law_595, eL_law_597, eL_law_598, eL_law_599, eL_law_600, eL_law_603, eL_law_605, eL_law_606, eL_law_609, eL_law_611, eL_law_614, eL_law_615, eL_law_616, eL_law_618, eL_law_621, eL_law_622, eL_law_623, eL_law_624, eL_law_626, eL_law_627, eL_law_628, eL_law_631, eL_law_632, eL_law_633, i1, j1, c1, k1, nI_1, h1, h2, h3, h4', hk, g_thrown, lg_self, m_kill, m_cE_i, m_cE_v, m_cE_ite, m_kill, if_true]
  · simp only [eL_law_580, eL_law_581, eL_law_582, eL_law_584, eL_law_585, eL_law_586, eL_law_587, eL_law_588, eL_law_591, eL_law_593, eL_law_594, eL_law_595, eL_law_597, eL_law_598, eL_law_599, eL_law_600, eL_law_603, eL_law_605, eL_law_606, eL_law_609, eL_law_611, eL_law_614, eL_law_615, eL_law_616, eL_law_618, eL_law_621, eL_law_622, eL_law_623, eL_law_624, eL_law_626, eL_law_627, eL_law_628, eL_law_631, eL_law_632, eL_law_633, i1, j1, c1, k1, nI_1, h1, h2, h3, hk, g_thrown, m_kill, m_cE_i, m_cE_v, m_cE_ite, m_kill, if_true, if_false]

theorem y_pass_v (a : Int32) {v : Int32} {M1 : m_Mem} (h : m_cl 71 [.ref (m_lc 1 0 0), .int a] M = some (.inl (some (.int v)), M1)) : m_cl 189 [.ref (m_lc 1 0 0), .int a, .ref (m_lc 22 0 0)] M = some (.inl (some (.int 0)), m_set M1 22 0 0 0 v) := by
  rw [eL_pass_en]
  simp only [eL_pass_0, eL_pass_1, eL_pass_2, eL_pass_3, eL_pass_4, eL_pass_7, eL_pass_8, eL_pass_9, eL_pass_18, eL_pass_19, h, m_kill, m_cE_i, m_cE_v, m_cE_ite, m_kill]
theorem y_pass_x (a : Int32) {E : String} {k : Int32} (hc : 0 ≤ M 28 0 0 0 ∧ M 28 0 0 0 < 100000) (h : m_cl 71 [.ref (m_lc 1 0 0), .int a] M = some (.inr E, M)) (hk : m_hk (189 * 65536 + 7) E = some k) : m_cl 189 [.ref (m_lc 1 0 0), .int a, .ref (m_lc 22 0 0)] M = some (.inl (some (.int k)), m_bump M) := by
  rw [eL_pass_en]
  simp only [eL_pass_0, eL_pass_1, eL_pass_2, eL_pass_3, eL_pass_4, h]
  exact m_cE_x hk hc

theorem x_pass (hT : r_T M M n N B L) (hc : 0 ≤ M 28 0 0 0 ∧ M 28 0 0 0 < 100000) (hs : M 27 0 0 0 = nI S) (hS : S < 2 ^ 31) (hi : i + 2 < S) : x_ok M i 636 := by
  intro l5 l6 l7 l8
  obtain ⟨k0, K, b, M2, h1, kf, h2, h3, h4, h5, h6⟩ := z_h (H := 189) (asH := [.ref (m_lc 1 0 0), .int (M 26 0 0 (i + 1)), .ref (m_lc 22 0 0)]) (z_pass (f := m_hk (189 * 65536 + 7)) hT (by decide +kernel) (by decide +kernel) (M 26 0 0 (i + 1))) (fun v M1 h => y_pass_v _ h) (fun E k h hk => y_pass_x _ hc h hk)
  have i1 := x_in (i := i + 1) hs hS (by omega)
  have j1 := x_in (i := i + 1) (K := K) (by rw [kf _ _ _ _ (Or.inr rfl)]; exact hs) hS (by omega)
  have c1 : (nI (i + 1)).toNatClampNeg = i + 1 := nI_clamp (by omega)
  have k1 : K 26 0 0 (i + 1) = M 26 0 0 (i + 1) := kf _ _ _ _ (Or.inl rfl)
  refine ⟨some (.int k0), some (.int b), l7, l8, M2, ?_, h5, h6⟩
  by_cases hk : k0 = 0
  · have h4' := h4.resolve_left (fun z => z hk)
    simp only [eL_law_636, eL_law_637, eL_law_638, eL_law_640, eL_law_641, eL_law_642, eL_law_643, eL_law_644, eL_law_647, eL_law_649, eL_law_650, eL_law_651, eL_law_653, eL_law_654, eL_law_655, eL_law_656, eL_law_659, eL_law_661, eL_law_662, eL_law_665, eL_law_667, eL_law_670, eL_law_671, eL_law_672, eL_law_674, eL_law_677, eL_law_678, eL_law_679, eL_law_680, eL_law_682, eL_law_683, eL_law_684, eL_law_687, eL_law_688, eL_law_689, i1, j1, c1, k1, nI_1, h1, h2, h3, h4', hk, g_thrown, lg_self, m_kill, m_cE_i, m_cE_v, m_cE_ite, m_kill, if_true]
  · simp only [eL_law_636, eL_law_637, eL_law_638, eL_law_640, eL_law_641, eL_law_642, eL_law_643, eL_law_644, eL_law_647, eL_law_649, eL_law_650, eL_law_651, eL_law_653, eL_law_654, eL_law_655, eL_law_656, eL_law_659, eL_law_661, eL_law_662, eL_law_665, eL_law_667, eL_law_670, eL_law_671, eL_law_672, eL_law_674, eL_law_677, eL_law_678, eL_law_679, eL_law_680, eL_law_682, eL_law_683, eL_law_684, eL_law_687, eL_law_688, eL_law_689, i1, j1, c1, k1, nI_1, h1, h2, h3, hk, g_thrown, m_kill, m_cE_i, m_cE_v, m_cE_ite, m_kill, if_true, if_false]

theorem y_set_v (a b : Int32) {v : Int32} {M1 : m_Mem} (h : m_cl 72 [.ref (m_lc 1 0 0), .int a, .int b] M = some (.inl (some (.int v)), M1)) : m_cl 190 [.ref (m_lc 1 0 0), .int a, .int b, .ref (m_lc 22 0 0)] M = some (.inl (some (.int 0)), m_set M1 22 0 0 0 v) := by
  rw [eL_set_en]
  simp only [eL_set_0, eL_set_1, eL_set_2, eL_set_3, eL_set_4, eL_set_5, eL_set_8, eL_set_9, eL_set_10, eL_set_21, eL_set_22, h, m_kill, m_cE_i, m_cE_v, m_cE_ite, m_kill]
theorem y_set_x (a b : Int32) {E : String} {k : Int32} (hc : 0 ≤ M 28 0 0 0 ∧ M 28 0 0 0 < 100000) (h : m_cl 72 [.ref (m_lc 1 0 0), .int a, .int b] M = some (.inr E, M)) (hk : m_hk (190 * 65536 + 8) E = some k) : m_cl 190 [.ref (m_lc 1 0 0), .int a, .int b, .ref (m_lc 22 0 0)] M = some (.inl (some (.int k)), m_bump M) := by
  rw [eL_set_en]
  simp only [eL_set_0, eL_set_1, eL_set_2, eL_set_3, eL_set_4, eL_set_5, h]
  exact m_cE_x hk hc

theorem x_set (hT : r_T M M n N B L) (hc : 0 ≤ M 28 0 0 0 ∧ M 28 0 0 0 < 100000) (hs : M 27 0 0 0 = nI S) (hS : S < 2 ^ 31) (hi : i + 2 < S) : x_ok M i 692 := by
  intro l5 l6 l7 l8
  obtain ⟨k0, K, b, M2, h1, kf, h2, h3, h4, h5, h6⟩ := z_h (H := 190) (asH := [.ref (m_lc 1 0 0), .int (M 26 0 0 (i + 1)), .int (M 26 0 0 (i + 2)), .ref (m_lc 22 0 0)]) (z_set (f := m_hk (190 * 65536 + 8)) hT (by decide +kernel) (by decide +kernel) (M 26 0 0 (i + 1)) (M 26 0 0 (i + 2))) (fun v M1 h => y_set_v _ _ h) (fun E k h hk => y_set_x _ _ hc h hk)
  have i1 := x_in (i := i + 1) hs hS (by omega)
  have j1 := x_in (i := i + 1) (K := K) (by rw [kf _ _ _ _ (Or.inr rfl)]; exact hs) hS (by omega)
  have c1 : (nI (i + 1)).toNatClampNeg = i + 1 := nI_clamp (by omega)
  have k1 : K 26 0 0 (i + 1) = M 26 0 0 (i + 1) := kf _ _ _ _ (Or.inl rfl)
  have i2 := x_in (i := i + 2) hs hS (by omega)
  have j2 := x_in (i := i + 2) (K := K) (by rw [kf _ _ _ _ (Or.inr rfl)]; exact hs) hS (by omega)
  have c2 : (nI (i + 2)).toNatClampNeg = i + 2 := nI_clamp (by omega)
  have k2 : K 26 0 0 (i + 2) = M 26 0 0 (i + 2) := kf _ _ _ _ (Or.inl rfl)
  have a2 : nI i + 2 = nI (i + 2) := nI_add i 2
  refine ⟨some (.int k0), some (.int b), l7, l8, M2, ?_, h5, h6⟩
  by_cases hk : k0 = 0
  · have h4' := h4.resolve_left (fun z => z hk)
    simp only [eL_law_692, eL_law_693, eL_law_694, eL_law_696, eL_law_697, eL_law_698, eL_law_699, eL_law_700, eL_law_702, eL_law_703, eL_law_704, eL_law_705, eL_law_706, eL_law_709, eL_law_711, eL_law_712, eL_law_713, eL_law_715, eL_law_716, eL_law_717, eL_law_718, eL_law_719, eL_law_721, eL_law_722, eL_law_723, eL_law_724, eL_law_727, eL_law_729, eL_law_730, eL_law_733, eL_law_735, eL_law_738, eL_law_739, eL_law_740, eL_law_742, eL_law_745, eL_law_746, eL_law_747, eL_law_748, eL_law_750, eL_law_751, eL_law_752, eL_law_755, eL_law_756, eL_law_757, i1, j1, c1, k1, nI_1, i2, j2, c2, k2, a2, h1, h2, h3, h4', hk, g_thrown, lg_self, m_kill, m_cE_i, m_cE_v, m_cE_ite, m_kill, if_true]
  · simp only [eL_law_692, eL_law_693, eL_law_694, eL_law_696, eL_law_697, eL_law_698, eL_law_699, eL_law_700, eL_law_702, eL_law_703, eL_law_704, eL_law_705, eL_law_706, eL_law_709, eL_law_711, eL_law_712, eL_law_713, eL_law_715, eL_law_716, eL_law_717, eL_law_718, eL_law_719, eL_law_721, eL_law_722, eL_law_723, eL_law_724, eL_law_727, eL_law_729, eL_law_730, eL_law_733, eL_law_735, eL_law_738, eL_law_739, eL_law_740, eL_law_742, eL_law_745, eL_law_746, eL_law_747, eL_law_748, eL_law_750, eL_law_751, eL_law_752, eL_law_755, eL_law_756, eL_law_757, i1, j1, c1, k1, nI_1, i2, j2, c2, k2, a2, h1, h2, h3, hk, g_thrown, m_kill, m_cE_i, m_cE_v, m_cE_ite, m_kill, if_true, if_false]

theorem y_append_v (a : Int32) {v : Int32} {M1 : m_Mem} (h : m_cl 73 [.ref (m_lc 1 0 0), .int a] M = some (.inl (some (.int v)), M1)) : m_cl 191 [.ref (m_lc 1 0 0), .int a, .ref (m_lc 22 0 0)] M = some (.inl (some (.int 0)), m_set M1 22 0 0 0 v) := by
  rw [eL_append_en]
  simp only [eL_append_0, eL_append_1, eL_append_2, eL_append_3, eL_append_4, eL_append_7, eL_append_8, eL_append_9, eL_append_18, eL_append_19, h, m_kill, m_cE_i, m_cE_v, m_cE_ite, m_kill]
theorem y_append_x (a : Int32) {E : String} {k : Int32} (hc : 0 ≤ M 28 0 0 0 ∧ M 28 0 0 0 < 100000) (h : m_cl 73 [.ref (m_lc 1 0 0), .int a] M = some (.inr E, M)) (hk : m_hk (191 * 65536 + 7) E = some k) : m_cl 191 [.ref (m_lc 1 0 0), .int a, .ref (m_lc 22 0 0)] M = some (.inl (some (.int k)), m_bump M) := by
  rw [eL_append_en]
  simp only [eL_append_0, eL_append_1, eL_append_2, eL_append_3, eL_append_4, h]
  exact m_cE_x hk hc

theorem x_append (hT : r_T M M n N B L) (hc : 0 ≤ M 28 0 0 0 ∧ M 28 0 0 0 < 100000) (hs : M 27 0 0 0 = nI S) (hS : S < 2 ^ 31) (hi : i + 2 < S) : x_ok M i 760 := by
  intro l5 l6 l7 l8
  obtain ⟨k0, K, b, M2, h1, kf, h2, h3, h4, h5, h6⟩ := z_h (H := 191) (asH := [.ref (m_lc 1 0 0), .int (M 26 0 0 (i + 1)), .ref (m_lc 22 0 0)]) (z_append (f := m_hk (191 * 65536 + 7)) hT (by decide +kernel) (by decide +kernel) (M 26 0 0 (i + 1))) (fun v M1 h => y_append_v _ h) (fun E k h hk => y_append_x _ hc h hk)
  have i1 := x_in (i := i + 1) hs hS (by omega)
  have j1 := x_in (i := i + 1) (K := K) (by rw [kf _ _ _ _ (Or.inr rfl)]; exact hs) hS (by omega)
  have c1 : (nI (i + 1)).toNatClampNeg = i + 1 := nI_clamp (by omega)
  have k1 : K 26 0 0 (i + 1) = M 26 0 0 (i + 1) := kf _ _ _ _ (Or.inl rfl)
  refine ⟨some (.int k0), some (.int b), l7, l8, M2, ?_, h5, h6⟩
  by_cases hk : k0 = 0
  · have h4' := h4.resolve_left (fun z => z hk)
    simp only [eL_law_760, eL_law_761, eL_law_762, eL_law_764, eL_law_765, eL_law_766, eL_law_767, eL_law_768, eL_law_771, eL_law_773, eL_law_774, eL_law_775, eL_law_777, eL_law_778, eL_law_779, eL_law_780, eL_law_783, eL_law_785, eL_law_786, eL_law_789, eL_law_791, eL_law_794, eL_law_795, eL_law_796, eL_law_798, eL_law_801, eL_law_802, eL_law_803, eL_law_804, eL_law_806, eL_law_807, eL_law_808, eL_law_811, eL_law_812, eL_law_813, i1, j1, c1, k1, nI_1, h1, h2, h3, h4', hk, g_thrown, lg_self, m_kill, m_cE_i, m_cE_v, m_cE_ite, m_kill, if_true]
  · simp only [eL_law_760, eL_law_761, eL_law_762, eL_law_764, eL_law_765, eL_law_766, eL_law_767, eL_law_768, eL_law_771, eL_law_773, eL_law_774, eL_law_775, eL_law_777, eL_law_778, eL_law_779, eL_law_780, eL_law_783, eL_law_785, eL_law_786, eL_law_789, eL_law_791, eL_law_794, eL_law_795, eL_law_796, eL_law_798, eL_law_801, eL_law_802, eL_law_803, eL_law_804, eL_law_806, eL_law_807, eL_law_808, eL_law_811, eL_law_812, eL_law_813, i1, j1, c1, k1, nI_1, h1, h2, h3, hk, g_thrown, m_kill, m_cE_i, m_cE_v, m_cE_ite, m_kill, if_true, if_false]

theorem y_live_v {v : Int32} {M1 : m_Mem} (h : m_cl 76 [.ref (m_lc 1 0 0)] M = some (.inl (some (.int v)), M1)) : m_cl 192 [.ref (m_lc 1 0 0), .ref (m_lc 22 0 0)] M = some (.inl (some (.int 0)), m_set M1 22 0 0 0 v) := by
  rw [eL_live_en]
  simp only [eL_live_0, eL_live_1, eL_live_2, eL_live_3, eL_live_6, eL_live_7, eL_live_8, eL_live_14, eL_live_15, h, m_kill, m_cE_i, m_cE_v, m_cE_ite, m_kill]
theorem y_live_x {E : String} {k : Int32} (hc : 0 ≤ M 28 0 0 0 ∧ M 28 0 0 0 < 100000) (h : m_cl 76 [.ref (m_lc 1 0 0)] M = some (.inr E, M)) (hk : m_hk (192 * 65536 + 6) E = some k) : m_cl 192 [.ref (m_lc 1 0 0), .ref (m_lc 22 0 0)] M = some (.inl (some (.int k)), m_bump M) := by
  rw [eL_live_en]
  simp only [eL_live_0, eL_live_1, eL_live_2, eL_live_3, h]
  exact m_cE_x hk hc

theorem x_live (hT : r_T M M n N B L) (hc : 0 ≤ M 28 0 0 0 ∧ M 28 0 0 0 < 100000) (hs : M 27 0 0 0 = nI S) (hS : S < 2 ^ 31) (hi : i + 2 < S) : x_ok M i 842 := by
  intro l5 l6 l7 l8
  obtain ⟨k0, K, b, M2, h1, kf, h2, h3, h4, h5, h6⟩ := z_h (H := 192) (asH := [.ref (m_lc 1 0 0), .ref (m_lc 22 0 0)]) (z_live (f := m_hk (192 * 65536 + 6)) hT (by decide +kernel)) (fun v M1 h => y_live_v h) (fun E k h hk => y_live_x hc h hk)
  refine ⟨some (.int k0), some (.int b), l7, l8, M2, ?_, h5, h6⟩
  by_cases hk : k0 = 0
  · have h4' := h4.resolve_left (fun z => z hk)
    simp only [eL_law_842, eL_law_843, eL_law_844, eL_law_847, eL_law_849, eL_law_850, eL_law_853, eL_law_855, eL_law_856, eL_law_859, eL_law_861, eL_law_864, eL_law_865, eL_law_866, eL_law_868, eL_law_871, eL_law_872, eL_law_873, eL_law_874, eL_law_876, eL_law_877, eL_law_878, eL_law_881, eL_law_882, eL_law_883, h1, h2, h3, h4', hk, g_thrown, lg_self, m_kill, m_cE_i, m_cE_v, m_cE_ite, m_kill, if_true]
  · simp only [eL_law_842, eL_law_843, eL_law_844, eL_law_847, eL_law_849, eL_law_850, eL_law_853, eL_law_855, eL_law_856, eL_law_859, eL_law_861, eL_law_864, eL_law_865, eL_law_866, eL_law_868, eL_law_871, eL_law_872, eL_law_873, eL_law_874, eL_law_876, eL_law_877, eL_law_878, eL_law_881, eL_law_882, eL_law_883, h1, h2, h3, hk, g_thrown, m_kill, m_cE_i, m_cE_v, m_cE_ite, m_kill, if_true, if_false]

theorem y_keep_v (a : Int32) {v : Int32} {M1 : m_Mem} (h : m_cl 77 [.ref (m_lc 1 0 0), .int a] M = some (.inl (some (.int v)), M1)) : m_cl 193 [.ref (m_lc 1 0 0), .int a, .ref (m_lc 22 0 0)] M = some (.inl (some (.int 0)), m_set M1 22 0 0 0 v) := by
  rw [eL_keep_en]
  simp only [eL_keep_0, eL_keep_1, eL_keep_2, eL_keep_3, eL_keep_4, eL_keep_7, eL_keep_8, eL_keep_9, eL_keep_15, eL_keep_16, h, m_kill, m_cE_i, m_cE_v, m_cE_ite, m_kill]
theorem y_keep_x (a : Int32) {E : String} {k : Int32} (hc : 0 ≤ M 28 0 0 0 ∧ M 28 0 0 0 < 100000) (h : m_cl 77 [.ref (m_lc 1 0 0), .int a] M = some (.inr E, M)) (hk : m_hk (193 * 65536 + 7) E = some k) : m_cl 193 [.ref (m_lc 1 0 0), .int a, .ref (m_lc 22 0 0)] M = some (.inl (some (.int k)), m_bump M) := by
  rw [eL_keep_en]
  simp only [eL_keep_0, eL_keep_1, eL_keep_2, eL_keep_3, eL_keep_4, h]
  exact m_cE_x hk hc

theorem x_keep (hT : r_T M M n N B L) (hc : 0 ≤ M 28 0 0 0 ∧ M 28 0 0 0 < 100000) (hs : M 27 0 0 0 = nI S) (hS : S < 2 ^ 31) (hi : i + 2 < S) : x_ok M i 886 := by
  intro l5 l6 l7 l8
  obtain ⟨k0, K, b, M2, h1, kf, h2, h3, h4, h5, h6⟩ := z_h (H := 193) (asH := [.ref (m_lc 1 0 0), .int (M 26 0 0 (i + 1)), .ref (m_lc 22 0 0)]) (z_keep (f := m_hk (193 * 65536 + 7)) hT (by decide +kernel) (M 26 0 0 (i + 1))) (fun v M1 h => y_keep_v _ h) (fun E k h hk => y_keep_x _ hc h hk)
  have i1 := x_in (i := i + 1) hs hS (by omega)
  have j1 := x_in (i := i + 1) (K := K) (by rw [kf _ _ _ _ (Or.inr rfl)]; exact hs) hS (by omega)
  have c1 : (nI (i + 1)).toNatClampNeg = i + 1 := nI_clamp (by omega)
  have k1 : K 26 0 0 (i + 1) = M 26 0 0 (i + 1) := kf _ _ _ _ (Or.inl rfl)
  refine ⟨some (.int k0), some (.int b), l7, l8, M2, ?_, h5, h6⟩
  by_cases hk : k0 = 0
  · have h4' := h4.resolve_left (fun z => z hk)
    simp only [eL_law_886, eL_law_887, eL_law_888, eL_law_890, eL_law_891, eL_law_892, eL_law_893, eL_law_894, eL_law_897, eL_law_899, eL_law_900, eL_law_901, eL_law_903, eL_law_904, eL_law_905, eL_law_906, eL_law_909, eL_law_911, eL_law_912, eL_law_915, eL_law_917, eL_law_920, eL_law_921, eL_law_922, eL_law_924, eL_law_927, eL_law_928, eL_law_929, eL_law_930, eL_law_932, eL_law_933, eL_law_934, eL_law_937, eL_law_938, eL_law_939, i1, j1, c1, k1, nI_1, h1, h2, h3, h4', hk, g_thrown, lg_self, m_kill, m_cE_i, m_cE_v, m_cE_ite, m_kill, if_true]
  · simp only [eL_law_886, eL_law_887, eL_law_888, eL_law_890, eL_law_891, eL_law_892, eL_law_893, eL_law_894, eL_law_897, eL_law_899, eL_law_900, eL_law_901, eL_law_903, eL_law_904, eL_law_905, eL_law_906, eL_law_909, eL_law_911, eL_law_912, eL_law_915, eL_law_917, eL_law_920, eL_law_921, eL_law_922, eL_law_924, eL_law_927, eL_law_928, eL_law_929, eL_law_930, eL_law_932, eL_law_933, eL_law_934, eL_law_937, eL_law_938, eL_law_939, i1, j1, c1, k1, nI_1, h1, h2, h3, hk, g_thrown, m_kill, m_cE_i, m_cE_v, m_cE_ite, m_kill, if_true, if_false]

theorem y_goBack_v (a : Int32) {v : Int32} {M1 : m_Mem} (h : m_cl 78 [.ref (m_lc 1 0 0), .int a] M = some (.inl (some (.int v)), M1)) : m_cl 194 [.ref (m_lc 1 0 0), .int a, .ref (m_lc 22 0 0)] M = some (.inl (some (.int 0)), m_set M1 22 0 0 0 v) := by
  rw [eL_goBack_en]
  simp only [eL_goBack_0, eL_goBack_1, eL_goBack_2, eL_goBack_3, eL_goBack_4, eL_goBack_7, eL_goBack_8, eL_goBack_9, eL_goBack_18, eL_goBack_19, h, m_kill, m_cE_i, m_cE_v, m_cE_ite, m_kill]
theorem y_goBack_x (a : Int32) {E : String} {k : Int32} (hc : 0 ≤ M 28 0 0 0 ∧ M 28 0 0 0 < 100000) (h : m_cl 78 [.ref (m_lc 1 0 0), .int a] M = some (.inr E, M)) (hk : m_hk (194 * 65536 + 7) E = some k) : m_cl 194 [.ref (m_lc 1 0 0), .int a, .ref (m_lc 22 0 0)] M = some (.inl (some (.int k)), m_bump M) := by
  rw [eL_goBack_en]
  simp only [eL_goBack_0, eL_goBack_1, eL_goBack_2, eL_goBack_3, eL_goBack_4, h]
  exact m_cE_x hk hc

theorem x_goBack (hT : r_T M M n N B L) (hc : 0 ≤ M 28 0 0 0 ∧ M 28 0 0 0 < 100000) (hs : M 27 0 0 0 = nI S) (hS : S < 2 ^ 31) (hi : i + 2 < S) : x_ok M i 942 := by
  intro l5 l6 l7 l8
  obtain ⟨k0, K, b, M2, h1, kf, h2, h3, h4, h5, h6⟩ := z_h (H := 194) (asH := [.ref (m_lc 1 0 0), .int (M 26 0 0 (i + 1)), .ref (m_lc 22 0 0)]) (z_goBack (f := m_hk (194 * 65536 + 7)) hT (by decide +kernel) (by decide +kernel) (M 26 0 0 (i + 1))) (fun v M1 h => y_goBack_v _ h) (fun E k h hk => y_goBack_x _ hc h hk)
  have i1 := x_in (i := i + 1) hs hS (by omega)
  have j1 := x_in (i := i + 1) (K := K) (by rw [kf _ _ _ _ (Or.inr rfl)]; exact hs) hS (by omega)
  have c1 : (nI (i + 1)).toNatClampNeg = i + 1 := nI_clamp (by omega)
  have k1 : K 26 0 0 (i + 1) = M 26 0 0 (i + 1) := kf _ _ _ _ (Or.inl rfl)
  refine ⟨some (.int k0), some (.int b), l7, l8, M2, ?_, h5, h6⟩
  by_cases hk : k0 = 0
  · have h4' := h4.resolve_left (fun z => z hk)
    simp only [eL_law_942, eL_law_943, eL_law_944, eL_law_946, eL_law_947, eL_law_948, eL_law_949, eL_law_950, eL_law_953, eL_law_955, eL_law_956, eL_law_957, eL_law_959, eL_law_960, eL_law_961, eL_law_962, eL_law_965, eL_law_967, eL_law_968, eL_law_971, eL_law_973, eL_law_976, eL_law_977, eL_law_978, eL_law_980, eL_law_983, eL_law_984, eL_law_985, eL_law_986, eL_law_988, eL_law_989, eL_law_990, eL_law_993, eL_law_994, eL_law_995, i1, j1, c1, k1, nI_1, h1, h2, h3, h4', hk, g_thrown, lg_self, m_kill, m_cE_i, m_cE_v, m_cE_ite, m_kill, if_true]
  · simp only [eL_law_942, eL_law_943, eL_law_944, eL_law_946, eL_law_947, eL_law_948, eL_law_949, eL_law_950, eL_law_953, eL_law_955, eL_law_956, eL_law_957, eL_law_959, eL_law_960, eL_law_961, eL_law_962, eL_law_965, eL_law_967, eL_law_968, eL_law_971, eL_law_973, eL_law_976, eL_law_977, eL_law_978, eL_law_980, eL_law_983, eL_law_984, eL_law_985, eL_law_986, eL_law_988, eL_law_989, eL_law_990, eL_law_993, eL_law_994, eL_law_995, i1, j1, c1, k1, nI_1, h1, h2, h3, hk, g_thrown, m_kill, m_cE_i, m_cE_v, m_cE_ite, m_kill, if_true, if_false]

theorem y_undo_v {v : Int32} {M1 : m_Mem} (h : m_cl 79 [.ref (m_lc 1 0 0)] M = some (.inl (some (.int v)), M1)) : m_cl 195 [.ref (m_lc 1 0 0), .ref (m_lc 22 0 0)] M = some (.inl (some (.int 0)), m_set M1 22 0 0 0 v) := by
  rw [eL_undo_en]
  simp only [eL_undo_0, eL_undo_1, eL_undo_2, eL_undo_3, eL_undo_6, eL_undo_7, eL_undo_8, eL_undo_14, eL_undo_15, h, m_kill, m_cE_i, m_cE_v, m_cE_ite, m_kill]
theorem y_undo_x {E : String} {k : Int32} (hc : 0 ≤ M 28 0 0 0 ∧ M 28 0 0 0 < 100000) (h : m_cl 79 [.ref (m_lc 1 0 0)] M = some (.inr E, M)) (hk : m_hk (195 * 65536 + 6) E = some k) : m_cl 195 [.ref (m_lc 1 0 0), .ref (m_lc 22 0 0)] M = some (.inl (some (.int k)), m_bump M) := by
  rw [eL_undo_en]
  simp only [eL_undo_0, eL_undo_1, eL_undo_2, eL_undo_3, h]
  exact m_cE_x hk hc

theorem x_undo (hT : r_T M M n N B L) (hc : 0 ≤ M 28 0 0 0 ∧ M 28 0 0 0 < 100000) (hs : M 27 0 0 0 = nI S) (hS : S < 2 ^ 31) (hi : i + 2 < S) : x_ok M i 998 := by
  intro l5 l6 l7 l8
  obtain ⟨k0, K, b, M2, h1, kf, h2, h3, h4, h5, h6⟩ := z_h (H := 195) (asH := [.ref (m_lc 1 0 0), .ref (m_lc 22 0 0)]) (z_undo (f := m_hk (195 * 65536 + 6)) hT (by decide +kernel)) (fun v M1 h => y_undo_v h) (fun E k h hk => y_undo_x hc h hk)
  refine ⟨some (.int k0), some (.int b), l7, l8, M2, ?_, h5, h6⟩
  by_cases hk : k0 = 0
  · have h4' := h4.resolve_left (fun z => z hk)
    simp only [eL_law_998, eL_law_999, eL_law_1000, eL_law_1003, eL_law_1005, eL_law_1006, eL_law_1009, eL_law_1011, eL_law_1012, eL_law_1015, eL_law_1017, eL_law_1020, eL_law_1021, eL_law_1022, eL_law_1024, eL_law_1027, eL_law_1028, eL_law_1029, eL_law_1030, eL_law_1032, eL_law_1033, eL_law_1034, eL_law_1037, eL_law_1038, eL_law_1039, h1, h2, h3, h4', hk, g_thrown, lg_self, m_kill, m_cE_i, m_cE_v, m_cE_ite, m_kill, if_true]
  · simp only [eL_law_998, eL_law_999, eL_law_1000, eL_law_1003, eL_law_1005, eL_law_1006, eL_law_1009, eL_law_1011, eL_law_1012, eL_law_1015, eL_law_1017, eL_law_1020, eL_law_1021, eL_law_1022, eL_law_1024, eL_law_1027, eL_law_1028, eL_law_1029, eL_law_1030, eL_law_1032, eL_law_1033, eL_law_1034, eL_law_1037, eL_law_1038, eL_law_1039, h1, h2, h3, hk, g_thrown, m_kill, m_cE_i, m_cE_v, m_cE_ite, m_kill, if_true, if_false]

theorem y_diggerOf_v (a b : Int32) {v : Int32} {M1 : m_Mem} (h : m_cl 80 [.ref (m_lc 1 0 0), .int a, .int b] M = some (.inl (some (.int v)), M1)) : m_cl 196 [.ref (m_lc 1 0 0), .int a, .int b, .ref (m_lc 22 0 0)] M = some (.inl (some (.int 0)), m_set M1 22 0 0 0 v) := by
  rw [eL_diggerOf_en]
  simp only [eL_diggerOf_0, eL_diggerOf_1, eL_diggerOf_2, eL_diggerOf_3, eL_diggerOf_4, eL_diggerOf_5, eL_diggerOf_8, eL_diggerOf_9, eL_diggerOf_10, eL_diggerOf_21, eL_diggerOf_22, h, m_kill, m_cE_i, m_cE_v, m_cE_ite, m_kill]
theorem y_diggerOf_x (a b : Int32) {E : String} {k : Int32} (hc : 0 ≤ M 28 0 0 0 ∧ M 28 0 0 0 < 100000) (h : m_cl 80 [.ref (m_lc 1 0 0), .int a, .int b] M = some (.inr E, M)) (hk : m_hk (196 * 65536 + 8) E = some k) : m_cl 196 [.ref (m_lc 1 0 0), .int a, .int b, .ref (m_lc 22 0 0)] M = some (.inl (some (.int k)), m_bump M) := by
  rw [eL_diggerOf_en]
  simp only [eL_diggerOf_0, eL_diggerOf_1, eL_diggerOf_2, eL_diggerOf_3, eL_diggerOf_4, eL_diggerOf_5, h]
  exact m_cE_x hk hc

theorem x_diggerOf (hT : r_T M M n N B L) (hc : 0 ≤ M 28 0 0 0 ∧ M 28 0 0 0 < 100000) (hs : M 27 0 0 0 = nI S) (hS : S < 2 ^ 31) (hi : i + 2 < S) : x_ok M i 1042 := by
  intro l5 l6 l7 l8
  obtain ⟨k0, K, b, M2, h1, kf, h2, h3, h4, h5, h6⟩ := z_h (H := 196) (asH := [.ref (m_lc 1 0 0), .int (M 26 0 0 (i + 1)), .int (M 26 0 0 (i + 2)), .ref (m_lc 22 0 0)]) (z_diggerOf (f := m_hk (196 * 65536 + 8)) hT (by decide +kernel) (by decide +kernel) (M 26 0 0 (i + 1)) (M 26 0 0 (i + 2))) (fun v M1 h => y_diggerOf_v _ _ h) (fun E k h hk => y_diggerOf_x _ _ hc h hk)
  have i1 := x_in (i := i + 1) hs hS (by omega)
  have j1 := x_in (i := i + 1) (K := K) (by rw [kf _ _ _ _ (Or.inr rfl)]; exact hs) hS (by omega)
  have c1 : (nI (i + 1)).toNatClampNeg = i + 1 := nI_clamp (by omega)
  have k1 : K 26 0 0 (i + 1) = M 26 0 0 (i + 1) := kf _ _ _ _ (Or.inl rfl)
  have i2 := x_in (i := i + 2) hs hS (by omega)
  have j2 := x_in (i := i + 2) (K := K) (by rw [kf _ _ _ _ (Or.inr rfl)]; exact hs) hS (by omega)
  have c2 : (nI (i + 2)).toNatClampNeg = i + 2 := nI_clamp (by omega)
  have k2 : K 26 0 0 (i + 2) = M 26 0 0 (i + 2) := kf _ _ _ _ (Or.inl rfl)
  have a2 : nI i + 2 = nI (i + 2) := nI_add i 2
  refine ⟨some (.int k0), some (.int b), l7, l8, M2, ?_, h5, h6⟩
  by_cases hk : k0 = 0
  · have h4' := h4.resolve_left (fun z => z hk)
    simp only [eL_law_1042, eL_law_1043, eL_law_1044, eL_law_1046, eL_law_1047, eL_law_1048, eL_law_1049, eL_law_1050, eL_law_1052, eL_law_1053, eL_law_1054, eL_law_1055, eL_law_1056, eL_law_1059, eL_law_1061, eL_law_1062, eL_law_1063, eL_law_1065, eL_law_1066, eL_law_1067, eL_law_1068, eL_law_1069, eL_law_1071, eL_law_1072, eL_law_1073, eL_law_1074, eL_law_1077, eL_law_1079, eL_law_1080, eL_law_1083, eL_law_1085, eL_law_1088, eL_law_1089, eL_law_1090, eL_law_1092, eL_law_1095, eL_law_1096, eL_law_1097, eL_law_1098, eL_law_1100, eL_law_1101, eL_law_1102, eL_law_1105, eL_law_1106, eL_law_1107, i1, j1, c1, k1, nI_1, i2, j2, c2, k2, a2, h1, h2, h3, h4', hk, g_thrown, lg_self, m_kill, m_cE_i, m_cE_v, m_cE_ite, m_kill, if_true]
  · simp only [eL_law_1042, eL_law_1043, eL_law_1044, eL_law_1046, eL_law_1047, eL_law_1048, eL_law_1049, eL_law_1050, eL_law_1052, eL_law_1053, eL_law_1054, eL_law_1055, eL_law_1056, eL_law_1059, eL_law_1061, eL_law_1062, eL_law_1063, eL_law_1065, eL_law_1066, eL_law_1067, eL_law_1068, eL_law_1069, eL_law_1071, eL_law_1072, eL_law_1073, eL_law_1074, eL_law_1077, eL_law_1079, eL_law_1080, eL_law_1083, eL_law_1085, eL_law_1088, eL_law_1089, eL_law_1090, eL_law_1092, eL_law_1095, eL_law_1096, eL_law_1097, eL_law_1098, eL_law_1100, eL_law_1101, eL_law_1102, eL_law_1105, eL_law_1106, eL_law_1107, i1, j1, c1, k1, nI_1, i2, j2, c2, k2, a2, h1, h2, h3, hk, g_thrown, m_kill, m_cE_i, m_cE_v, m_cE_ite, m_kill, if_true, if_false]

theorem y_claim_v (a b : Int32) {v : Int32} {M1 : m_Mem} (h : m_cl 81 [.ref (m_lc 1 0 0), .int a, .int b] M = some (.inl (some (.int v)), M1)) : m_cl 197 [.ref (m_lc 1 0 0), .int a, .int b, .ref (m_lc 22 0 0)] M = some (.inl (some (.int 0)), m_set M1 22 0 0 0 v) := by
  rw [eL_claim_en]
  simp only [eL_claim_0, eL_claim_1, eL_claim_2, eL_claim_3, eL_claim_4, eL_claim_5, eL_claim_8, eL_claim_9, eL_claim_10, eL_claim_17, eL_claim_18, h, m_kill, m_cE_i, m_cE_v, m_cE_ite, m_kill]
theorem y_claim_x (a b : Int32) {E : String} {k : Int32} (hc : 0 ≤ M 28 0 0 0 ∧ M 28 0 0 0 < 100000) (h : m_cl 81 [.ref (m_lc 1 0 0), .int a, .int b] M = some (.inr E, M)) (hk : m_hk (197 * 65536 + 8) E = some k) : m_cl 197 [.ref (m_lc 1 0 0), .int a, .int b, .ref (m_lc 22 0 0)] M = some (.inl (some (.int k)), m_bump M) := by
  rw [eL_claim_en]
  simp only [eL_claim_0, eL_claim_1, eL_claim_2, eL_claim_3, eL_claim_4, eL_claim_5, h]
  exact m_cE_x hk hc

theorem x_claim (hT : r_T M M n N B L) (hc : 0 ≤ M 28 0 0 0 ∧ M 28 0 0 0 < 100000) (hs : M 27 0 0 0 = nI S) (hS : S < 2 ^ 31) (hi : i + 2 < S) : x_ok M i 1110 := by
  intro l5 l6 l7 l8
  obtain ⟨k0, K, b, M2, h1, kf, h2, h3, h4, h5, h6⟩ := z_h (H := 197) (asH := [.ref (m_lc 1 0 0), .int (M 26 0 0 (i + 1)), .int (M 26 0 0 (i + 2)), .ref (m_lc 22 0 0)]) (z_claim (f := m_hk (197 * 65536 + 8)) hT (by decide +kernel) (M 26 0 0 (i + 1)) (M 26 0 0 (i + 2))) (fun v M1 h => y_claim_v _ _ h) (fun E k h hk => y_claim_x _ _ hc h hk)
  have i1 := x_in (i := i + 1) hs hS (by omega)
  have j1 := x_in (i := i + 1) (K := K) (by rw [kf _ _ _ _ (Or.inr rfl)]; exact hs) hS (by omega)
  have c1 : (nI (i + 1)).toNatClampNeg = i + 1 := nI_clamp (by omega)
  have k1 : K 26 0 0 (i + 1) = M 26 0 0 (i + 1) := kf _ _ _ _ (Or.inl rfl)
  have i2 := x_in (i := i + 2) hs hS (by omega)
  have j2 := x_in (i := i + 2) (K := K) (by rw [kf _ _ _ _ (Or.inr rfl)]; exact hs) hS (by omega)
  have c2 : (nI (i + 2)).toNatClampNeg = i + 2 := nI_clamp (by omega)
  have k2 : K 26 0 0 (i + 2) = M 26 0 0 (i + 2) := kf _ _ _ _ (Or.inl rfl)
  have a2 : nI i + 2 = nI (i + 2) := nI_add i 2
  refine ⟨some (.int k0), some (.int b), l7, l8, M2, ?_, h5, h6⟩
  by_cases hk : k0 = 0
  · have h4' := h4.resolve_left (fun z => z hk)
    simp only [eL_law_1110, eL_law_1111, eL_law_1112, eL_law_1114, eL_law_1115, eL_law_1116, eL_law_1117, eL_law_1118, eL_law_1120, eL_law_1121, eL_law_1122, eL_law_1123, eL_law_1124, eL_law_1127, eL_law_1129, eL_law_1130, eL_law_1131, eL_law_1133, eL_law_1134, eL_law_1135, eL_law_1136, eL_law_1137, eL_law_1139, eL_law_1140, eL_law_1141, eL_law_1142, eL_law_1145, eL_law_1147, eL_law_1148, eL_law_1151, eL_law_1153, eL_law_1156, eL_law_1157, eL_law_1158, eL_law_1160, eL_law_1163, eL_law_1164, eL_law_1165, eL_law_1166, eL_law_1168, eL_law_1169, eL_law_1170, eL_law_1173, eL_law_1174, eL_law_1175, i1, j1, c1, k1, nI_1, i2, j2, c2, k2, a2, h1, h2, h3, h4', hk, g_thrown, lg_self, m_kill, m_cE_i, m_cE_v, m_cE_ite, m_kill, if_true]
  · simp only [eL_law_1110, eL_law_1111, eL_law_1112, eL_law_1114, eL_law_1115, eL_law_1116, eL_law_1117, eL_law_1118, eL_law_1120, eL_law_1121, eL_law_1122, eL_law_1123, eL_law_1124, eL_law_1127, eL_law_1129, eL_law_1130, eL_law_1131, eL_law_1133, eL_law_1134, eL_law_1135, eL_law_1136, eL_law_1137, eL_law_1139, eL_law_1140, eL_law_1141, eL_law_1142, eL_law_1145, eL_law_1147, eL_law_1148, eL_law_1151, eL_law_1153, eL_law_1156, eL_law_1157, eL_law_1158, eL_law_1160, eL_law_1163, eL_law_1164, eL_law_1165, eL_law_1166, eL_law_1168, eL_law_1169, eL_law_1170, eL_law_1173, eL_law_1174, eL_law_1175, i1, j1, c1, k1, nI_1, i2, j2, c2, k2, a2, h1, h2, h3, hk, g_thrown, m_kill, m_cE_i, m_cE_v, m_cE_ite, m_kill, if_true, if_false]

theorem y_bar_v (a b : Int32) {v : Int32} {M1 : m_Mem} (h : m_cl 82 [.ref (m_lc 1 0 0), .int a, .int b] M = some (.inl (some (.int v)), M1)) : m_cl 198 [.ref (m_lc 1 0 0), .int a, .int b, .ref (m_lc 22 0 0)] M = some (.inl (some (.int 0)), m_set M1 22 0 0 0 v) := by
  rw [eL_bar_en]
  simp only [eL_bar_0, eL_bar_1, eL_bar_2, eL_bar_3, eL_bar_4, eL_bar_5, eL_bar_8, eL_bar_9, eL_bar_10, eL_bar_21, eL_bar_22, h, m_kill, m_cE_i, m_cE_v, m_cE_ite, m_kill]
theorem y_bar_x (a b : Int32) {E : String} {k : Int32} (hc : 0 ≤ M 28 0 0 0 ∧ M 28 0 0 0 < 100000) (h : m_cl 82 [.ref (m_lc 1 0 0), .int a, .int b] M = some (.inr E, M)) (hk : m_hk (198 * 65536 + 8) E = some k) : m_cl 198 [.ref (m_lc 1 0 0), .int a, .int b, .ref (m_lc 22 0 0)] M = some (.inl (some (.int k)), m_bump M) := by
  rw [eL_bar_en]
  simp only [eL_bar_0, eL_bar_1, eL_bar_2, eL_bar_3, eL_bar_4, eL_bar_5, h]
  exact m_cE_x hk hc

theorem x_bar (hT : r_T M M n N B L) (hc : 0 ≤ M 28 0 0 0 ∧ M 28 0 0 0 < 100000) (hs : M 27 0 0 0 = nI S) (hS : S < 2 ^ 31) (hi : i + 2 < S) : x_ok M i 1178 := by
  intro l5 l6 l7 l8
  obtain ⟨k0, K, b, M2, h1, kf, h2, h3, h4, h5, h6⟩ := z_h (H := 198) (asH := [.ref (m_lc 1 0 0), .int (M 26 0 0 (i + 1)), .int (M 26 0 0 (i + 2)), .ref (m_lc 22 0 0)]) (z_bar (f := m_hk (198 * 65536 + 8)) hT (by decide +kernel) (by decide +kernel) (M 26 0 0 (i + 1)) (M 26 0 0 (i + 2))) (fun v M1 h => y_bar_v _ _ h) (fun E k h hk => y_bar_x _ _ hc h hk)
  have i1 := x_in (i := i + 1) hs hS (by omega)
  have j1 := x_in (i := i + 1) (K := K) (by rw [kf _ _ _ _ (Or.inr rfl)]; exact hs) hS (by omega)
  have c1 : (nI (i + 1)).toNatClampNeg = i + 1 := nI_clamp (by omega)
  have k1 : K 26 0 0 (i + 1) = M 26 0 0 (i + 1) := kf _ _ _ _ (Or.inl rfl)
  have i2 := x_in (i := i + 2) hs hS (by omega)
  have j2 := x_in (i := i + 2) (K := K) (by rw [kf _ _ _ _ (Or.inr rfl)]; exact hs) hS (by omega)
  have c2 : (nI (i + 2)).toNatClampNeg = i + 2 := nI_clamp (by omega)
  have k2 : K 26 0 0 (i + 2) = M 26 0 0 (i + 2) := kf _ _ _ _ (Or.inl rfl)
  have a2 : nI i + 2 = nI (i + 2) := nI_add i 2
  refine ⟨some (.int k0), some (.int b), l7, l8, M2, ?_, h5, h6⟩
  by_cases hk : k0 = 0
  · have h4' := h4.resolve_left (fun z => z hk)
    simp only [eL_law_1178, eL_law_1179, eL_law_1180, eL_law_1182, eL_law_1183, eL_law_1184, eL_law_1185, eL_law_1186, eL_law_1188, eL_law_1189, eL_law_1190, eL_law_1191, eL_law_1192, eL_law_1195, eL_law_1197, eL_law_1198, eL_law_1199, eL_law_1201, eL_law_1202, eL_law_1203, eL_law_1204, eL_law_1205, eL_law_1207, eL_law_1208, eL_law_1209, eL_law_1210, eL_law_1213, eL_law_1215, eL_law_1216, eL_law_1219, eL_law_1221, eL_law_1224, eL_law_1225, eL_law_1226, eL_law_1228, eL_law_1231, eL_law_1232, eL_law_1233, eL_law_1234, eL_law_1236, eL_law_1237, eL_law_1238, eL_law_1241, eL_law_1242, eL_law_1243, i1, j1, c1, k1, nI_1, i2, j2, c2, k2, a2, h1, h2, h3, h4', hk, g_thrown, lg_self, m_kill, m_cE_i, m_cE_v, m_cE_ite, m_kill, if_true]
  · simp only [eL_law_1178, eL_law_1179, eL_law_1180, eL_law_1182, eL_law_1183, eL_law_1184, eL_law_1185, eL_law_1186, eL_law_1188, eL_law_1189, eL_law_1190, eL_law_1191, eL_law_1192, eL_law_1195, eL_law_1197, eL_law_1198, eL_law_1199, eL_law_1201, eL_law_1202, eL_law_1203, eL_law_1204, eL_law_1205, eL_law_1207, eL_law_1208, eL_law_1209, eL_law_1210, eL_law_1213, eL_law_1215, eL_law_1216, eL_law_1219, eL_law_1221, eL_law_1224, eL_law_1225, eL_law_1226, eL_law_1228, eL_law_1231, eL_law_1232, eL_law_1233, eL_law_1234, eL_law_1236, eL_law_1237, eL_law_1238, eL_law_1241, eL_law_1242, eL_law_1243, i1, j1, c1, k1, nI_1, i2, j2, c2, k2, a2, h1, h2, h3, hk, g_thrown, m_kill, m_cE_i, m_cE_v, m_cE_ite, m_kill, if_true, if_false]

theorem y_count_v (a : Int32) {v : Int32} {M1 : m_Mem} (h : m_cl 83 [.ref (m_lc 1 0 0), .int a] M = some (.inl (some (.int v)), M1)) : m_cl 199 [.ref (m_lc 1 0 0), .int a, .ref (m_lc 22 0 0)] M = some (.inl (some (.int 0)), m_set M1 22 0 0 0 v) := by
  rw [eL_count_en]
  simp only [eL_count_0, eL_count_1, eL_count_2, eL_count_3, eL_count_4, eL_count_7, eL_count_8, eL_count_9, eL_count_15, eL_count_16, h, m_kill, m_cE_i, m_cE_v, m_cE_ite, m_kill]
theorem y_count_x (a : Int32) {E : String} {k : Int32} (hc : 0 ≤ M 28 0 0 0 ∧ M 28 0 0 0 < 100000) (h : m_cl 83 [.ref (m_lc 1 0 0), .int a] M = some (.inr E, M)) (hk : m_hk (199 * 65536 + 7) E = some k) : m_cl 199 [.ref (m_lc 1 0 0), .int a, .ref (m_lc 22 0 0)] M = some (.inl (some (.int k)), m_bump M) := by
  rw [eL_count_en]
  simp only [eL_count_0, eL_count_1, eL_count_2, eL_count_3, eL_count_4, h]
  exact m_cE_x hk hc

theorem x_count (hT : r_T M M n N B L) (hc : 0 ≤ M 28 0 0 0 ∧ M 28 0 0 0 < 100000) (hs : M 27 0 0 0 = nI S) (hS : S < 2 ^ 31) (hi : i + 2 < S) : x_ok M i 1246 := by
  intro l5 l6 l7 l8
  obtain ⟨k0, K, b, M2, h1, kf, h2, h3, h4, h5, h6⟩ := z_h (H := 199) (asH := [.ref (m_lc 1 0 0), .int (M 26 0 0 (i + 1)), .ref (m_lc 22 0 0)]) (z_count (f := m_hk (199 * 65536 + 7)) hT (by decide +kernel) (M 26 0 0 (i + 1))) (fun v M1 h => y_count_v _ h) (fun E k h hk => y_count_x _ hc h hk)
  have i1 := x_in (i := i + 1) hs hS (by omega)
  have j1 := x_in (i := i + 1) (K := K) (by rw [kf _ _ _ _ (Or.inr rfl)]; exact hs) hS (by omega)
  have c1 : (nI (i + 1)).toNatClampNeg = i + 1 := nI_clamp (by omega)
  have k1 : K 26 0 0 (i + 1) = M 26 0 0 (i + 1) := kf _ _ _ _ (Or.inl rfl)
  refine ⟨some (.int k0), some (.int b), l7, l8, M2, ?_, h5, h6⟩
  by_cases hk : k0 = 0
  · have h4' := h4.resolve_left (fun z => z hk)
    simp only [eL_law_1246, eL_law_1247, eL_law_1248, eL_law_1250, eL_law_1251, eL_law_1252, eL_law_1253, eL_law_1254, eL_law_1257, eL_law_1259, eL_law_1260, eL_law_1261, eL_law_1263, eL_law_1264, eL_law_1265, eL_law_1266, eL_law_1269, eL_law_1271, eL_law_1272, eL_law_1275, eL_law_1277, eL_law_1280, eL_law_1281, eL_law_1282, eL_law_1284, eL_law_1287, eL_law_1288, eL_law_1289, eL_law_1290, eL_law_1292, eL_law_1293, eL_law_1294, eL_law_1297, eL_law_1298, eL_law_1299, i1, j1, c1, k1, nI_1, h1, h2, h3, h4', hk, g_thrown, lg_self, m_kill, m_cE_i, m_cE_v, m_cE_ite, m_kill, if_true]
  · simp only [eL_law_1246, eL_law_1247, eL_law_1248, eL_law_1250, eL_law_1251, eL_law_1252, eL_law_1253, eL_law_1254, eL_law_1257, eL_law_1259, eL_law_1260, eL_law_1261, eL_law_1263, eL_law_1264, eL_law_1265, eL_law_1266, eL_law_1269, eL_law_1271, eL_law_1272, eL_law_1275, eL_law_1277, eL_law_1280, eL_law_1281, eL_law_1282, eL_law_1284, eL_law_1287, eL_law_1288, eL_law_1289, eL_law_1290, eL_law_1292, eL_law_1293, eL_law_1294, eL_law_1297, eL_law_1298, eL_law_1299, i1, j1, c1, k1, nI_1, h1, h2, h3, hk, g_thrown, m_kill, m_cE_i, m_cE_v, m_cE_ite, m_kill, if_true, if_false]

theorem y_setting_v (a : Int32) {v : Int32} {M1 : m_Mem} (h : m_cl 84 [.ref (m_lc 1 0 0), .int a] M = some (.inl (some (.int v)), M1)) : m_cl 200 [.ref (m_lc 1 0 0), .int a, .ref (m_lc 22 0 0)] M = some (.inl (some (.int 0)), m_set M1 22 0 0 0 v) := by
  rw [eL_setting_en]
  simp only [eL_setting_0, eL_setting_1, eL_setting_2, eL_setting_3, eL_setting_4, eL_setting_7, eL_setting_8, eL_setting_9, eL_setting_15, eL_setting_16, h, m_kill, m_cE_i, m_cE_v, m_cE_ite, m_kill]
theorem y_setting_x (a : Int32) {E : String} {k : Int32} (hc : 0 ≤ M 28 0 0 0 ∧ M 28 0 0 0 < 100000) (h : m_cl 84 [.ref (m_lc 1 0 0), .int a] M = some (.inr E, M)) (hk : m_hk (200 * 65536 + 7) E = some k) : m_cl 200 [.ref (m_lc 1 0 0), .int a, .ref (m_lc 22 0 0)] M = some (.inl (some (.int k)), m_bump M) := by
  rw [eL_setting_en]
  simp only [eL_setting_0, eL_setting_1, eL_setting_2, eL_setting_3, eL_setting_4, h]
  exact m_cE_x hk hc

theorem x_setting (hT : r_T M M n N B L) (hc : 0 ≤ M 28 0 0 0 ∧ M 28 0 0 0 < 100000) (hs : M 27 0 0 0 = nI S) (hS : S < 2 ^ 31) (hi : i + 2 < S) : x_ok M i 1302 := by
  intro l5 l6 l7 l8
  obtain ⟨k0, K, b, M2, h1, kf, h2, h3, h4, h5, h6⟩ := z_h (H := 200) (asH := [.ref (m_lc 1 0 0), .int (M 26 0 0 (i + 1)), .ref (m_lc 22 0 0)]) (z_setting (f := m_hk (200 * 65536 + 7)) hT (by decide +kernel) (M 26 0 0 (i + 1))) (fun v M1 h => y_setting_v _ h) (fun E k h hk => y_setting_x _ hc h hk)
  have i1 := x_in (i := i + 1) hs hS (by omega)
  have j1 := x_in (i := i + 1) (K := K) (by rw [kf _ _ _ _ (Or.inr rfl)]; exact hs) hS (by omega)
  have c1 : (nI (i + 1)).toNatClampNeg = i + 1 := nI_clamp (by omega)
  have k1 : K 26 0 0 (i + 1) = M 26 0 0 (i + 1) := kf _ _ _ _ (Or.inl rfl)
  refine ⟨some (.int k0), some (.int b), l7, l8, M2, ?_, h5, h6⟩
  by_cases hk : k0 = 0
  · have h4' := h4.resolve_left (fun z => z hk)
    simp only [eL_law_1302, eL_law_1303, eL_law_1304, eL_law_1306, eL_law_1307, eL_law_1308, eL_law_1309, eL_law_1310, eL_law_1313, eL_law_1315, eL_law_1316, eL_law_1317, eL_law_1319, eL_law_1320, eL_law_1321, eL_law_1322, eL_law_1325, eL_law_1327, eL_law_1328, eL_law_1331, eL_law_1333, eL_law_1336, eL_law_1337, eL_law_1338, eL_law_1340, eL_law_1343, eL_law_1344, eL_law_1345, eL_law_1346, eL_law_1348, eL_law_1349, eL_law_1350, eL_law_1353, eL_law_1354, eL_law_1355, i1, j1, c1, k1, nI_1, h1, h2, h3, h4', hk, g_thrown, lg_self, m_kill, m_cE_i, m_cE_v, m_cE_ite, m_kill, if_true]
  · simp only [eL_law_1302, eL_law_1303, eL_law_1304, eL_law_1306, eL_law_1307, eL_law_1308, eL_law_1309, eL_law_1310, eL_law_1313, eL_law_1315, eL_law_1316, eL_law_1317, eL_law_1319, eL_law_1320, eL_law_1321, eL_law_1322, eL_law_1325, eL_law_1327, eL_law_1328, eL_law_1331, eL_law_1333, eL_law_1336, eL_law_1337, eL_law_1338, eL_law_1340, eL_law_1343, eL_law_1344, eL_law_1345, eL_law_1346, eL_law_1348, eL_law_1349, eL_law_1350, eL_law_1353, eL_law_1354, eL_law_1355, i1, j1, c1, k1, nI_1, h1, h2, h3, hk, g_thrown, m_kill, m_cE_i, m_cE_v, m_cE_ite, m_kill, if_true, if_false]

theorem y_ifWeighed_v (a b : Int32) {v : Int32} {M1 : m_Mem} (h : m_cl 85 [.ref (m_lc 1 0 0), .int a, .int b] M = some (.inl (some (.int v)), M1)) : m_cl 201 [.ref (m_lc 1 0 0), .int a, .int b, .ref (m_lc 22 0 0)] M = some (.inl (some (.int 0)), m_set M1 22 0 0 0 v) := by
  rw [eL_ifWeighed_en]
  simp only [eL_ifWeighed_0, eL_ifWeighed_1, eL_ifWeighed_2, eL_ifWeighed_3, eL_ifWeighed_4, eL_ifWeighed_5, eL_ifWeighed_8, eL_ifWeighed_9, eL_ifWeighed_10, eL_ifWeighed_17, eL_ifWeighed_18, h, m_kill, m_cE_i, m_cE_v, m_cE_ite, m_kill]
theorem y_ifWeighed_x (a b : Int32) {E : String} {k : Int32} (hc : 0 ≤ M 28 0 0 0 ∧ M 28 0 0 0 < 100000) (h : m_cl 85 [.ref (m_lc 1 0 0), .int a, .int b] M = some (.inr E, M)) (hk : m_hk (201 * 65536 + 8) E = some k) : m_cl 201 [.ref (m_lc 1 0 0), .int a, .int b, .ref (m_lc 22 0 0)] M = some (.inl (some (.int k)), m_bump M) := by
  rw [eL_ifWeighed_en]
  simp only [eL_ifWeighed_0, eL_ifWeighed_1, eL_ifWeighed_2, eL_ifWeighed_3, eL_ifWeighed_4, eL_ifWeighed_5, h]
  exact m_cE_x hk hc

theorem x_ifWeighed (hT : r_T M M n N B L) (hc : 0 ≤ M 28 0 0 0 ∧ M 28 0 0 0 < 100000) (hs : M 27 0 0 0 = nI S) (hS : S < 2 ^ 31) (hi : i + 2 < S) : x_ok M i 1358 := by
  intro l5 l6 l7 l8
  obtain ⟨k0, K, b, M2, h1, kf, h2, h3, h4, h5, h6⟩ := z_h (H := 201) (asH := [.ref (m_lc 1 0 0), .int (M 26 0 0 (i + 1)), .int (M 26 0 0 (i + 2)), .ref (m_lc 22 0 0)]) (z_ifWeighed (f := m_hk (201 * 65536 + 8)) hT (by decide +kernel) (M 26 0 0 (i + 1)) (M 26 0 0 (i + 2))) (fun v M1 h => y_ifWeighed_v _ _ h) (fun E k h hk => y_ifWeighed_x _ _ hc h hk)
  have i1 := x_in (i := i + 1) hs hS (by omega)
  have j1 := x_in (i := i + 1) (K := K) (by rw [kf _ _ _ _ (Or.inr rfl)]; exact hs) hS (by omega)
  have c1 : (nI (i + 1)).toNatClampNeg = i + 1 := nI_clamp (by omega)
  have k1 : K 26 0 0 (i + 1) = M 26 0 0 (i + 1) := kf _ _ _ _ (Or.inl rfl)
  have i2 := x_in (i := i + 2) hs hS (by omega)
  have j2 := x_in (i := i + 2) (K := K) (by rw [kf _ _ _ _ (Or.inr rfl)]; exact hs) hS (by omega)
  have c2 : (nI (i + 2)).toNatClampNeg = i + 2 := nI_clamp (by omega)
  have k2 : K 26 0 0 (i + 2) = M 26 0 0 (i + 2) := kf _ _ _ _ (Or.inl rfl)
  have a2 : nI i + 2 = nI (i + 2) := nI_add i 2
  refine ⟨some (.int k0), some (.int b), l7, l8, M2, ?_, h5, h6⟩
  by_cases hk : k0 = 0
  · have h4' := h4.resolve_left (fun z => z hk)
    simp only [eL_law_1358, eL_law_1359, eL_law_1360, eL_law_1362, eL_law_1363, eL_law_1364, eL_law_1365, eL_law_1366, eL_law_1368, eL_law_1369, eL_law_1370, eL_law_1371, eL_law_1372, eL_law_1375, eL_law_1377, eL_law_1378, eL_law_1379, eL_law_1381, eL_law_1382, eL_law_1383, eL_law_1384, eL_law_1385, eL_law_1387, eL_law_1388, eL_law_1389, eL_law_1390, eL_law_1393, eL_law_1395, eL_law_1396, eL_law_1399, eL_law_1401, eL_law_1404, eL_law_1405, eL_law_1406, eL_law_1408, eL_law_1411, eL_law_1412, eL_law_1413, eL_law_1414, eL_law_1416, eL_law_1417, eL_law_1418, eL_law_1421, eL_law_1422, eL_law_1423, i1, j1, c1, k1, nI_1, i2, j2, c2, k2, a2, h1, h2, h3, h4', hk, g_thrown, lg_self, m_kill, m_cE_i, m_cE_v, m_cE_ite, m_kill, if_true]
  · simp only [eL_law_1358, eL_law_1359, eL_law_1360, eL_law_1362, eL_law_1363, eL_law_1364, eL_law_1365, eL_law_1366, eL_law_1368, eL_law_1369, eL_law_1370, eL_law_1371, eL_law_1372, eL_law_1375, eL_law_1377, eL_law_1378, eL_law_1379, eL_law_1381, eL_law_1382, eL_law_1383, eL_law_1384, eL_law_1385, eL_law_1387, eL_law_1388, eL_law_1389, eL_law_1390, eL_law_1393, eL_law_1395, eL_law_1396, eL_law_1399, eL_law_1401, eL_law_1404, eL_law_1405, eL_law_1406, eL_law_1408, eL_law_1411, eL_law_1412, eL_law_1413, eL_law_1414, eL_law_1416, eL_law_1417, eL_law_1418, eL_law_1421, eL_law_1422, eL_law_1423, i1, j1, c1, k1, nI_1, i2, j2, c2, k2, a2, h1, h2, h3, hk, g_thrown, m_kill, m_cE_i, m_cE_v, m_cE_ite, m_kill, if_true, if_false]

theorem y_grainsFor_v (a : Int32) {v : Int32} {M1 : m_Mem} (h : m_cl 86 [.ref (m_lc 1 0 0), .int a] M = some (.inl (some (.int v)), M1)) : m_cl 202 [.ref (m_lc 1 0 0), .int a, .ref (m_lc 22 0 0)] M = some (.inl (some (.int 0)), m_set M1 22 0 0 0 v) := by
  rw [eL_grainsFor_en]
  simp only [eL_grainsFor_0, eL_grainsFor_1, eL_grainsFor_2, eL_grainsFor_3, eL_grainsFor_4, eL_grainsFor_7, eL_grainsFor_8, eL_grainsFor_9, eL_grainsFor_15, eL_grainsFor_16, h, m_kill, m_cE_i, m_cE_v, m_cE_ite, m_kill]
theorem y_grainsFor_x (a : Int32) {E : String} {k : Int32} (hc : 0 ≤ M 28 0 0 0 ∧ M 28 0 0 0 < 100000) (h : m_cl 86 [.ref (m_lc 1 0 0), .int a] M = some (.inr E, M)) (hk : m_hk (202 * 65536 + 7) E = some k) : m_cl 202 [.ref (m_lc 1 0 0), .int a, .ref (m_lc 22 0 0)] M = some (.inl (some (.int k)), m_bump M) := by
  rw [eL_grainsFor_en]
  simp only [eL_grainsFor_0, eL_grainsFor_1, eL_grainsFor_2, eL_grainsFor_3, eL_grainsFor_4, h]
  exact m_cE_x hk hc

theorem x_grainsFor (hT : r_T M M n N B L) (hc : 0 ≤ M 28 0 0 0 ∧ M 28 0 0 0 < 100000) (hs : M 27 0 0 0 = nI S) (hS : S < 2 ^ 31) (hi : i + 2 < S) : x_ok M i 1426 := by
  intro l5 l6 l7 l8
  obtain ⟨k0, K, b, M2, h1, kf, h2, h3, h4, h5, h6⟩ := z_h (H := 202) (asH := [.ref (m_lc 1 0 0), .int (M 26 0 0 (i + 1)), .ref (m_lc 22 0 0)]) (z_grainsFor (f := m_hk (202 * 65536 + 7)) hT (by decide +kernel) (M 26 0 0 (i + 1))) (fun v M1 h => y_grainsFor_v _ h) (fun E k h hk => y_grainsFor_x _ hc h hk)
  have i1 := x_in (i := i + 1) hs hS (by omega)
  have j1 := x_in (i := i + 1) (K := K) (by rw [kf _ _ _ _ (Or.inr rfl)]; exact hs) hS (by omega)
  have c1 : (nI (i + 1)).toNatClampNeg = i + 1 := nI_clamp (by omega)
  have k1 : K 26 0 0 (i + 1) = M 26 0 0 (i + 1) := kf _ _ _ _ (Or.inl rfl)
  refine ⟨some (.int k0), some (.int b), l7, l8, M2, ?_, h5, h6⟩
  by_cases hk : k0 = 0
  · have h4' := h4.resolve_left (fun z => z hk)
    simp only [eL_law_1426, eL_law_1427, eL_law_1428, eL_law_1430, eL_law_1431, eL_law_1432, eL_law_1433, eL_law_1434, eL_law_1437, eL_law_1439, eL_law_1440, eL_law_1441, eL_law_1443, eL_law_1444, eL_law_1445, eL_law_1446, eL_law_1449, eL_law_1451, eL_law_1452, eL_law_1455, eL_law_1457, eL_law_1460, eL_law_1461, eL_law_1462, eL_law_1464, eL_law_1467, eL_law_1468, eL_law_1469, eL_law_1470, eL_law_1472, eL_law_1473, eL_law_1474, eL_law_1477, eL_law_1478, eL_law_1479, i1, j1, c1, k1, nI_1, h1, h2, h3, h4', hk, g_thrown, lg_self, m_kill, m_cE_i, m_cE_v, m_cE_ite, m_kill, if_true]
  · simp only [eL_law_1426, eL_law_1427, eL_law_1428, eL_law_1430, eL_law_1431, eL_law_1432, eL_law_1433, eL_law_1434, eL_law_1437, eL_law_1439, eL_law_1440, eL_law_1441, eL_law_1443, eL_law_1444, eL_law_1445, eL_law_1446, eL_law_1449, eL_law_1451, eL_law_1452, eL_law_1455, eL_law_1457, eL_law_1460, eL_law_1461, eL_law_1462, eL_law_1464, eL_law_1467, eL_law_1468, eL_law_1469, eL_law_1470, eL_law_1472, eL_law_1473, eL_law_1474, eL_law_1477, eL_law_1478, eL_law_1479, i1, j1, c1, k1, nI_1, h1, h2, h3, hk, g_thrown, m_kill, m_cE_i, m_cE_v, m_cE_ite, m_kill, if_true, if_false]

theorem x_int_clearBuffer (hT : r_T M M n N B L) {v : Value} {M1 : m_Mem} (h : m_cl 74 [.ref (m_lc 1 0 0)] M = some (.inl (some v), M1)) : ∃ x, v = .int x := by
  rw [a_clear] at h
  cases h
  exact ⟨_, rfl⟩
theorem x_int_firstError (hT : r_T M M n N B L) {v : Value} {M1 : m_Mem} (h : m_cl 75 [.ref (m_lc 1 0 0)] M = some (.inl (some v), M1)) : ∃ x, v = .int x := by
  rw [a_firstError L hT.2.2.2.2.2.2.1.1.1 hT.2.2.2.2.2.2.1.1.2.1 hT.2.2.2.2.2.2.1.2.2] at h
  cases h
  exact ⟨_, rfl⟩
theorem x_int_worst (hT : r_T M M n N B L) {v : Value} {M1 : m_Mem} (h : m_cl 87 [.ref (m_lc 1 0 0)] M = some (.inl (some v), M1)) : ∃ x, v = .int x := by
  rw [a_worst (z_fI hT)] at h
  cases h
  exact ⟨_, rfl⟩
theorem x_int_safeFineness (hT : r_T M M n N B L) {v : Value} {M1 : m_Mem} (h : m_cl 88 [.ref (m_lc 1 0 0)] M = some (.inl (some v), M1)) : ∃ x, v = .int x := by
  rw [a_safe] at h
  cases h
  exact ⟨_, rfl⟩
theorem x_lng_digest (hT : r_T M M n N B L) {v : Value} {M1 : m_Mem} (h : m_cl 90 [.ref (m_lc 1 0 0)] M = some (.inl (some v), M1)) : ∃ x, v = .long x := by
  rw [a_digest (z_fI hT) L hT.2.2.2.2.2.2.1.1.1 hT.2.2.2.2.2.2.1.1.2.1 hT.2.2.2.2.2.2.1.2.2 (z_fnn (z_C hT)) _ (s_bits (r_fsh (z_C hT).2.2.2.2.2.2.2 (z_C hT).1.2.1.1) M)] at h
  cases h
  exact ⟨_, rfl⟩
theorem x_digest (hT : r_T M M n N B L) : x_ok M i 1549 := by
  intro l5 l6 l7 l8
  obtain ⟨v, M1, M2, h1, h2, h3, h4⟩ := z_digest hT
  obtain ⟨x, rfl⟩ := x_lng_digest hT h1
  refine ⟨l5, l6, l7, l8, M2, ?_, h4, Or.inl h3⟩
  simp only [eL_law_1549, eL_law_1550, eL_law_1553, eL_law_1554, eL_law_1557, eL_law_1558, eL_law_1561, eL_law_1562, h1, h2, lg_self, m_cE_i, m_cE_v, m_cE_ite, m_kill, if_true]
theorem x_fineShare (hT : r_T M M n N B L) : x_ok M i 1508 := by
  intro l5 l6 l7 l8
  obtain ⟨s, hs, M2, h1, h2, h3, h4⟩ := z_fineShare hT
  have h5 := d_sh_cmp hs CmpOp.l
  refine ⟨some (.double s), none, some (.double s), none, M2, ?_, h4, Or.inl h3⟩
  simp only [eL_law_1508, eL_law_1509, eL_law_1512, eL_law_1514, eL_law_1515, eL_law_1518, eL_law_1520, eL_law_1522, eL_law_1524, eL_law_1525, eL_law_1528, eL_law_1530, eL_law_1532, eL_law_1533, eL_law_1536, eL_law_1538, eL_law_1540, eL_law_1541, eL_law_1544, eL_law_1545, eL_law_1546, h1, h2, h5, m_kill, m_cE_i, m_cE_v, m_cE_ite, m_kill, if_true]
theorem x_clearBuffer (hT : r_T M M n N B L) : x_ok M i 816 := by
  intro l5 l6 l7 l8
  obtain ⟨v, M1, M2, h1, h2, h3, h4⟩ := z_clear hT
  obtain ⟨x, rfl⟩ := x_int_clearBuffer hT h1
  refine ⟨l5, l6, l7, l8, M2, ?_, h4, Or.inl h3⟩
  simp only [eL_law_816, eL_law_817, eL_law_820, eL_law_821, eL_law_824, eL_law_827, eL_law_828, h1, h2, m_cE_i, m_cE_v, m_cE_ite, m_kill, if_true]

theorem x_firstError (hT : r_T M M n N B L) : x_ok M i 829 := by
  intro l5 l6 l7 l8
  obtain ⟨v, M1, M2, h1, h2, h3, h4⟩ := z_firstError hT
  obtain ⟨x, rfl⟩ := x_int_firstError hT h1
  refine ⟨l5, l6, l7, l8, M2, ?_, h4, Or.inl h3⟩
  simp only [eL_law_829, eL_law_830, eL_law_833, eL_law_834, eL_law_837, eL_law_840, eL_law_841, h1, h2, m_cE_i, m_cE_v, m_cE_ite, m_kill, if_true]

theorem x_worst (hT : r_T M M n N B L) : x_ok M i 1482 := by
  intro l5 l6 l7 l8
  obtain ⟨v, M1, M2, h1, h2, h3, h4⟩ := z_worst hT
  obtain ⟨x, rfl⟩ := x_int_worst hT h1
  refine ⟨l5, l6, l7, l8, M2, ?_, h4, Or.inl h3⟩
  simp only [eL_law_1482, eL_law_1483, eL_law_1486, eL_law_1487, eL_law_1490, eL_law_1493, eL_law_1494, h1, h2, m_cE_i, m_cE_v, m_cE_ite, m_kill, if_true]

theorem x_safeFineness (hT : r_T M M n N B L) : x_ok M i 1495 := by
  intro l5 l6 l7 l8
  obtain ⟨v, M1, M2, h1, h2, h3, h4⟩ := z_safe hT
  obtain ⟨x, rfl⟩ := x_int_safeFineness hT h1
  refine ⟨l5, l6, l7, l8, M2, ?_, h4, Or.inl h3⟩
  simp only [eL_law_1495, eL_law_1496, eL_law_1499, eL_law_1500, eL_law_1503, eL_law_1506, eL_law_1507, h1, h2, m_cE_i, m_cE_v, m_cE_ite, m_kill, if_true]

end ARMS
