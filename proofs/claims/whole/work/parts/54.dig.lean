/-! THE MODEL: first error; its digest, by pieces. -/
theorem nI_quo {a b : Nat} (ha : a < 2 ^ 31) (hb : b < 2 ^ 31) (h0 : 0 < b) : nI a / nI b = nI (a / b) := by
  have hq : a / b < 2 ^ 31 := Nat.lt_of_le_of_lt (Nat.div_le_self a b) ha
  refine Int32.toInt_inj.mp ?_
  rw [Int32.toInt_div_of_ne_right _ _ (fun q => by
    have := nI_toInt hb
    rw [q] at this
    have e : (-1 : Int32).toInt = -1 := by decide
    omega), nI_toInt ha, nI_toInt hb, nI_toInt hq, Int.tdiv_eq_ediv_of_nonneg (by omega)]
  exact (Int.natCast_ediv a b).symm
theorem nI_subs {a b : Nat} (h : b ≤ a) : nI a - nI b = nI (a - b) := by
  obtain ⟨c, rfl⟩ := Nat.exists_eq_add_of_le h
  rw [Nat.add_sub_cancel_left, ← nI_add, Int32.add_comm, Int32.add_sub_cancel]
theorem nI_remd {a b : Nat} (ha : a < 2 ^ 31) (hb : b < 2 ^ 31) (h0 : 0 < b) : nI a - nI a / nI b * nI b = nI (a % b) := by
  rw [nI_quo ha hb h0, nI_mul, nI_subs (Nat.div_mul_le_self a b)]
  congr 1
  have := Nat.div_add_mod a b
  rw [Nat.mul_comm] at this
  omega
section DIG
variable {M : m_Mem} {p N B : Nat}
theorem h_firstError (L : Nat) (hL : L ≤ 60) (h7 : M 15 0 0 7 = nI L) : m_cl 151 [.ref (m_lc 15 0 0)] M =
    (let r := k_tx L (L + 1) (m_set (m_set (k_0 M) 15 0 0 8 0) 15 0 0 9 0)
    some (.inl (some (.int (if r.1 = 0 then r.2 15 0 0 8 else r.2 15 0 0 7))), r.2)) := by
  have e7 : k_0 M 15 0 0 7 = nI L := by rw [k_0_o _ _ _ _ _ (by decide)]; exact h7
  have ht := g_text L hL (k_0 M) e7
  rw [e6_firstError_en]
  dsimp only
  generalize k_tx L (L + 1) (m_set (m_set (k_0 M) 15 0 0 8 0) 15 0 0 9 0) = r at ht ⊢
  by_cases h : r.1 = 0
  · simp only [e6_firstError_0, e6_firstError_1, e6_firstError_2, e6_firstError_5, e6_firstError_6, e6_firstError_9, e6_firstError_12, e6_firstError_13, e6_firstError_16, e6_firstError_19, e6_firstError_20, e6_firstError_23, k_0_e, ht, h, m_kill, m_cE_i, m_cE_v, m_cE_ite, m_kill, ne_eq, not_true_eq_false, if_true, if_false, not_false_eq_true]
  · simp only [e6_firstError_0, e6_firstError_1, e6_firstError_2, e6_firstError_5, e6_firstError_6, e6_firstError_9, e6_firstError_12, e6_firstError_13, e6_firstError_16, e6_firstError_19, e6_firstError_20, e6_firstError_23, k_0_e, ht, h, m_kill, m_cE_i, m_cE_v, m_cE_ite, m_kill, ne_eq, if_true, if_false, not_false_eq_true]
theorem g_d1 (hJ : k_J M p N B) : ∀ (i n : Nat), n + i = 17 → m_E 178 11 [some (.ref (m_lc 15 0 0)), some (.long (f_h 3119 (k_num M p N B) n)), none, some (.int (nI n))] [] M = m_E 178 36 [some (.ref (m_lc 15 0 0)), some (.long (f_h 3119 (k_num M p N B) 17)), none, some (.int (nI 17))] [] M := by
  intro i
  induction i with
  | zero =>
    intro n hn
    have e : n = 17 := by omega
    subst e
    simp only [e6_digest_11, e6_digest_12, e6_digest_14, e6_digest_17, e6_digest_20, e6_digest_21, e6_digest_22, e6_digest_23, e6_digest_24, e6_digest_27, e6_digest_28, e6_digest_29, e6_digest_30, e6_digest_33, (by decide : (17 : Int32) ≤ nI 17), if_true]
  | succ i ih =>
    intro n hn
    have hle : ¬ (17 : Int32) ≤ nI n := nI_ge (b := 17) (by omega) (by decide)
    have ih2 := ih (n + 1) (by omega)
    rw [e6_digest_11]
    simp only [e6_digest_12, e6_digest_14, e6_digest_17, e6_digest_20, e6_digest_21, e6_digest_22, e6_digest_23, e6_digest_24, e6_digest_27, e6_digest_28, e6_digest_29, e6_digest_30, e6_digest_33, hle, g_counted hJ n (by omega), m_kill, m_cE_i, m_cE_v, m_cE_ite, m_kill, if_false, nI_1]
    exact ih2
theorem g_d2 (h : Int64) : ∀ (i n : Nat), n + i = 5 → m_E 178 38 [some (.ref (m_lc 15 0 0)), some (.long (f_h h (fun k => M 16 0 0 (8 + k)) n)), none, some (.int (nI n))] [] M = m_E 178 66 [some (.ref (m_lc 15 0 0)), some (.long (f_h h (fun k => M 16 0 0 (8 + k)) 5)), none, some (.int (nI 5))] [] M := by
  intro i
  induction i with
  | zero =>
    intro n hn
    have e : n = 5 := by omega
    subst e
    simp only [e6_digest_38, e6_digest_39, e6_digest_40, e6_digest_43, e6_digest_46, e6_digest_47, e6_digest_48, e6_digest_49, e6_digest_52, e6_digest_54, e6_digest_55, e6_digest_56, e6_digest_57, e6_digest_58, e6_digest_59, e6_digest_60, e6_digest_63, (by decide : (5 : Int32) ≤ nI 5), if_true]
  | succ i ih =>
    intro n hn
    have hle : ¬ (5 : Int32) ≤ nI n := nI_ge (b := 5) (by omega) (by decide)
    have hix : 8 + n < 173 := by omega
    have ih2 := ih (n + 1) (by omega)
    rw [e6_digest_38]
    simp only [e6_digest_39, e6_digest_40, e6_digest_43, e6_digest_46, e6_digest_47, e6_digest_48, e6_digest_49, e6_digest_52, e6_digest_54, e6_digest_55, e6_digest_56, e6_digest_57, e6_digest_58, e6_digest_59, e6_digest_60, e6_digest_63, hle, g_a8, hix, m_kill, m_cE_i, m_cE_v, m_cE_ite, m_kill, if_false, nI_1]
    exact ih2
theorem g_d3 (hJ : k_J M p N B) (h : Int64) : ∀ (i n : Nat), n + i = 9 * N → m_E 178 68 [some (.ref (m_lc 15 0 0)), some (.long (f_h h (f_row (k_dp M) 9) n)), none, some (.int (nI n))] [] M = m_E 178 107 [some (.ref (m_lc 15 0 0)), some (.long (f_h h (f_row (k_dp M) 9) (9 * N))), none, some (.int (nI (9 * N)))] [] M := by
  have hN := hJ.2.1
  have e9 : (9 : Int32) * nI N = nI (9 * N) := nI_mul 9 N
  intro i
  induction i with
  | zero =>
    intro n hn
    have e : n = 9 * N := by omega
    subst e
    have hle : nI (9 * N) ≤ nI (9 * N) := nI_le (Nat.le_refl _) (by omega)
    simp only [e6_digest_68, e6_digest_69, e6_digest_71, e6_digest_72, e6_digest_75, e6_digest_76, e6_digest_77, e6_digest_78, e6_digest_81, e6_digest_84, e6_digest_85, e6_digest_86, e6_digest_87, e6_digest_88, e6_digest_90, e6_digest_91, e6_digest_92, e6_digest_94, e6_digest_95, e6_digest_98, e6_digest_99, e6_digest_100, e6_digest_101, e6_digest_104, hN.2, e9, hle, if_true]
  | succ i ih =>
    intro n hn
    have hle : ¬ nI (9 * N) ≤ nI n := nI_ge (by omega) (by omega)
    have q1 : nI n / 9 = nI (n / 9) := nI_quo (b := 9) (by omega) (by decide) (by decide)
    have q2 : nI n - nI (n / 9) * 9 = nI (n % 9) := by
      rw [← q1]
      exact nI_remd (b := 9) (by omega) (by decide) (by decide)
    have ih2 := ih (n + 1) (by omega)
    have ho := g_ofD (M := M) (n / 9) (n % 9) (by omega) (by omega)
    rw [e6_digest_68]
    simp only [e6_digest_69, e6_digest_71, e6_digest_72, e6_digest_75, e6_digest_76, e6_digest_77, e6_digest_78, e6_digest_81, e6_digest_84, e6_digest_85, e6_digest_86, e6_digest_87, e6_digest_88, e6_digest_90, e6_digest_91, e6_digest_92, e6_digest_94, e6_digest_95, e6_digest_98, e6_digest_99, e6_digest_100, e6_digest_101, e6_digest_104, hN.2, e9, hle, q1, q2, ho, m_kill, m_cE_i, m_cE_v, m_cE_ite, m_kill, (by decide : ¬ (9 : Int32) = 0), not_false_eq_true, if_false, nI_1]
    exact ih2
theorem g_d4 (h : Int64) : ∀ (i n : Nat), n + i = 50 → m_E 178 109 [some (.ref (m_lc 15 0 0)), some (.long (f_h h (f_row (fun c k => M 16 0 0 (77 + 6 * c + k)) 5) n)), none, some (.int (nI n))] [] M = m_E 178 139 [some (.ref (m_lc 15 0 0)), some (.long (f_h h (f_row (fun c k => M 16 0 0 (77 + 6 * c + k)) 5) 50)), none, some (.int (nI 50))] [] M := by
  intro i
  induction i with
  | zero =>
    intro n hn
    have e : n = 50 := by omega
    subst e
    simp only [e6_digest_109, e6_digest_110, e6_digest_112, e6_digest_115, e6_digest_118, e6_digest_119, e6_digest_120, e6_digest_121, e6_digest_122, e6_digest_123, e6_digest_124, e6_digest_125, e6_digest_126, e6_digest_127, e6_digest_130, e6_digest_131, e6_digest_132, e6_digest_133, e6_digest_136, (by decide : (50 : Int32) ≤ nI 50), if_true]
  | succ i ih =>
    intro n hn
    have hle : ¬ (50 : Int32) ≤ nI n := nI_ge (b := 50) (by omega) (by decide)
    have q1 : nI n / 5 = nI (n / 5) := nI_quo (b := 5) (by omega) (by decide) (by decide)
    have q2 : nI n - nI (n / 5) * 5 = nI (n % 5) := by
      rw [← q1]
      exact nI_remd (b := 5) (by omega) (by decide) (by decide)
    have ih2 := ih (n + 1) (by omega)
    have ho := g_ofC (n / 5) (n % 5) (by omega) (by omega) M
    rw [e6_digest_109]
    simp only [e6_digest_110, e6_digest_112, e6_digest_115, e6_digest_118, e6_digest_119, e6_digest_120, e6_digest_121, e6_digest_122, e6_digest_123, e6_digest_124, e6_digest_125, e6_digest_126, e6_digest_127, e6_digest_130, e6_digest_131, e6_digest_132, e6_digest_133, e6_digest_136, hle, q1, q2, ho, m_kill, m_cE_i, m_cE_v, m_cE_ite, m_kill, (by decide : ¬ (5 : Int32) = 0), not_false_eq_true, if_false, nI_1]
    exact ih2
theorem g_d5 (hJ : k_J M p N B) (hW : ∀ b, b < B → ¬ M 16 0 0 (137 + 3 * b + 0) = 0) (h : Int64) : ∀ (i n : Nat), n + i = 5 * B → m_E 178 141 [some (.ref (m_lc 15 0 0)), some (.long (f_h h (f_row (k_bp M) 5) n)), none, some (.int (nI n))] [] M = m_E 178 177 [some (.ref (m_lc 15 0 0)), some (.long (f_h h (f_row (k_bp M) 5) (5 * B))), none, some (.int (nI (5 * B)))] [] M := by
  have hB := hJ.2.2
  have e9 : (5 : Int32) * nI B = nI (5 * B) := nI_mul 5 B
  intro i
  induction i with
  | zero =>
    intro n hn
    have e : n = 5 * B := by omega
    subst e
    have hle : nI (5 * B) ≤ nI (5 * B) := nI_le (Nat.le_refl _) (by omega)
    simp only [e6_digest_141, e6_digest_142, e6_digest_143, e6_digest_144, e6_digest_147, e6_digest_148, e6_digest_149, e6_digest_150, e6_digest_153, e6_digest_156, e6_digest_157, e6_digest_158, e6_digest_159, e6_digest_160, e6_digest_161, e6_digest_162, e6_digest_163, e6_digest_164, e6_digest_165, e6_digest_168, e6_digest_169, e6_digest_170, e6_digest_171, e6_digest_174, hB.2, e9, hle, if_true]
  | succ i ih =>
    intro n hn
    have hle : ¬ nI (5 * B) ≤ nI n := nI_ge (by omega) (by omega)
    have q1 : nI n / 5 = nI (n / 5) := nI_quo (b := 5) (by omega) (by decide) (by decide)
    have q2 : nI n - nI (n / 5) * 5 = nI (n % 5) := by
      rw [← q1]
      exact nI_remd (b := 5) (by omega) (by decide) (by decide)
    have ih2 := ih (n + 1) (by omega)
    have ho := g_barOf (M := M) (n / 5) (n % 5) (by omega) (by omega) (hW (n / 5) (by omega))
    rw [e6_digest_141]
    simp only [e6_digest_142, e6_digest_143, e6_digest_144, e6_digest_147, e6_digest_148, e6_digest_149, e6_digest_150, e6_digest_153, e6_digest_156, e6_digest_157, e6_digest_158, e6_digest_159, e6_digest_160, e6_digest_161, e6_digest_162, e6_digest_163, e6_digest_164, e6_digest_165, e6_digest_168, e6_digest_169, e6_digest_170, e6_digest_171, e6_digest_174, hB.2, e9, hle, q1, q2, ho, m_kill, m_cE_i, m_cE_v, m_cE_ite, m_kill, (by decide : ¬ (5 : Int32) = 0), not_false_eq_true, if_false, nI_1]
    exact ih2
theorem g_d6 (h : Int64) : ∀ (i n : Nat), n + i = 3 → m_E 178 179 [some (.ref (m_lc 15 0 0)), some (.long (f_h h (k_iw M 777) n)), none, some (.int (nI n))] [] M = m_E 178 206 [some (.ref (m_lc 15 0 0)), some (.long (f_h h (k_iw M 777) 3)), none, some (.int (nI 3))] [] M := by
  intro i
  induction i with
  | zero =>
    intro n hn
    have e : n = 3 := by omega
    subst e
    simp only [e6_digest_179, e6_digest_180, e6_digest_181, e6_digest_184, e6_digest_187, e6_digest_188, e6_digest_189, e6_digest_190, e6_digest_193, e6_digest_194, e6_digest_197, e6_digest_198, e6_digest_199, e6_digest_200, e6_digest_203, (by decide : (3 : Int32) ≤ nI 3), if_true]
  | succ i ih =>
    intro n hn
    have hle : ¬ (3 : Int32) ≤ nI n := nI_ge (b := 3) (by omega) (by decide)
    have ih2 := ih (n + 1) (by omega)
    rw [e6_digest_179]
    simp only [e6_digest_180, e6_digest_181, e6_digest_184, e6_digest_187, e6_digest_188, e6_digest_189, e6_digest_190, e6_digest_193, e6_digest_194, e6_digest_197, e6_digest_198, e6_digest_199, e6_digest_200, e6_digest_203, hle, g_weighed 777 n (by omega), m_kill, m_cE_i, m_cE_v, m_cE_ite, m_kill, if_false, nI_1]
    exact ih2
theorem g_d7 (L : Nat) (hL : L ≤ 60) (h7 : M 15 0 0 7 = nI L) (h : Int64) : ∀ (i n : Nat), n + i = L → m_E 178 310 [some (.ref (m_lc 15 0 0)), some (.long (f_h h (M 20 0 0) n)), none, some (.int (nI n))] [] M = some (.inl (some (.long (f_h h (M 20 0 0) L))), M) := by
  intro i
  induction i with
  | zero =>
    intro n hn
    have e : n = L := by omega
    subst e
    have hle : nI n ≤ nI n := nI_le (Nat.le_refl _) (by omega)
    simp only [e6_digest_310, e6_digest_311, e6_digest_312, e6_digest_315, e6_digest_318, e6_digest_321, e6_digest_322, e6_digest_323, e6_digest_324, e6_digest_327, e6_digest_328, e6_digest_329, e6_digest_330, e6_digest_331, e6_digest_332, e6_digest_335, e6_digest_338, e6_digest_339, h7, hle, if_true]
  | succ i ih =>
    intro n hn
    have hle : ¬ nI L ≤ nI n := nI_ge (by omega) (by omega)
    have h60 : n < 60 := by omega
    have ih2 := ih (n + 1) (by omega)
    rw [e6_digest_310]
    simp only [e6_digest_311, e6_digest_312, e6_digest_315, e6_digest_318, e6_digest_321, e6_digest_322, e6_digest_323, e6_digest_324, e6_digest_327, e6_digest_328, e6_digest_329, e6_digest_330, e6_digest_331, e6_digest_332, e6_digest_335, h7, hle, h60, m_kill, m_cE_i, m_cE_v, m_cE_ite, m_kill, if_false, nI_1]
    exact ih2
end DIG
