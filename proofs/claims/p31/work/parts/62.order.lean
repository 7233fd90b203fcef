/-! THE DAY'S TEXT: reading one order. -/
def c_sg (t : Nat → Int32) (L i : Nat) : Int32 := if i < L then t i else 32
/-- the digits from a on: where they end, and the number with what stood before -/
def c_dn (t : Nat → Int32) (L : Nat) : Nat → Nat → Int32 → Nat × Int32
  | 0, a, v => (a, v)
  | f + 1, a, v => if f_dg (c_sg t L a) = 1 then c_dn t L f (a + 1) (10 * v + (c_sg t L a - 48)) else (a, v)
def c_a1 (t : Nat → Int32) (L a : Nat) : Nat := if f_dg (c_sg t L a) = 1 then a + 1 else a
def c_d (t : Nat → Int32) (L a : Nat) : Int32 := if f_dg (c_sg t L a) = 1 then c_sg t L a - 48 else -1
def c_n (t : Nat → Int32) (L a : Nat) : Nat × Int32 := c_dn t L (L - (c_a1 t L a + 1)) (c_a1 t L a + 1) 0
def c_S (M : m_Mem) (p k d v : Int32) : m_Mem := m_set (m_set (m_set (m_set M 5 0 0 2 p) 5 0 0 3 k) 5 0 0 4 d) 5 0 0 5 v
theorem c_S_at (M : m_Mem) (p k d v : Int32) (a b c x : Nat) : c_S M p k d v a b c x = if a = 5 ∧ b = 0 ∧ c = 0 ∧ x = 5 then v else if a = 5 ∧ b = 0 ∧ c = 0 ∧ x = 4 then d else if a = 5 ∧ b = 0 ∧ c = 0 ∧ x = 3 then k else if a = 5 ∧ b = 0 ∧ c = 0 ∧ x = 2 then p else M a b c x := rfl
theorem c_S_2 (M : m_Mem) (p k d v : Int32) : c_S M p k d v 5 0 0 2 = p := by simp [c_S_at]
theorem c_S_5 (M : m_Mem) (p k d v : Int32) : c_S M p k d v 5 0 0 5 = v := by simp [c_S_at]
theorem c_S_3 (M : m_Mem) (p k d v : Int32) : c_S M p k d v 5 0 0 3 = k := by simp [c_S_at]
theorem c_S_4 (M : m_Mem) (p k d v : Int32) : c_S M p k d v 5 0 0 4 = d := by simp [c_S_at]
theorem c_S_1 (M : m_Mem) (p k d v : Int32) : c_S M p k d v 5 0 0 1 = M 5 0 0 1 := by simp [c_S_at]
theorem c_S_6 (M : m_Mem) (p k d v : Int32) (a b c i : Nat) (h : a ≠ 5) : c_S M p k d v a b c i = M a b c i := by simp [c_S_at, h]
theorem c_S_s2 (M : m_Mem) (p k d v q : Int32) : m_set (c_S M p k d v) 5 0 0 2 q = c_S M q k d v := by
  funext a b c x
  rw [m_set_at, c_S_at, c_S_at]
  by_cases h : a = 5 ∧ b = 0 ∧ c = 0 ∧ x = 2
  · obtain ⟨rfl, rfl, rfl, rfl⟩ := h
    simp
  · rw [if_neg h, if_neg h, if_neg h]
theorem c_S_s3 (M : m_Mem) (p k d v q : Int32) : m_set (c_S M p k d v) 5 0 0 3 q = c_S M p q d v := by
  funext a b c x
  rw [m_set_at, c_S_at, c_S_at]
  by_cases h : a = 5 ∧ b = 0 ∧ c = 0 ∧ x = 3
  · obtain ⟨rfl, rfl, rfl, rfl⟩ := h
    simp
  · rw [if_neg h, if_neg h, if_neg h]
theorem c_S_s4 (M : m_Mem) (p k d v q : Int32) : m_set (c_S M p k d v) 5 0 0 4 q = c_S M p k q v := by
  funext a b c x
  rw [m_set_at, c_S_at, c_S_at]
  by_cases h : a = 5 ∧ b = 0 ∧ c = 0 ∧ x = 4
  · obtain ⟨rfl, rfl, rfl, rfl⟩ := h
    simp
  · rw [if_neg h, if_neg h, if_neg h]
theorem c_S_s5 (M : m_Mem) (p k d v q : Int32) : m_set (c_S M p k d v) 5 0 0 5 q = c_S M p k d q := by
  funext a b c x
  rw [m_set_at, c_S_at, c_S_at]
  by_cases h : a = 5 ∧ b = 0 ∧ c = 0 ∧ x = 5
  · rw [if_pos h, if_pos h]
  · rw [if_neg h, if_neg h, if_neg h]
theorem c_S_r (M : m_Mem) : c_S M (M 5 0 0 2) (M 5 0 0 3) (M 5 0 0 4) (M 5 0 0 5) = M := by
  funext a b c x
  rw [c_S_at]
  by_cases h : a = 5 ∧ b = 0 ∧ c = 0 ∧ x = 5
  · obtain ⟨rfl, rfl, rfl, rfl⟩ := h
    rw [if_pos ⟨rfl, rfl, rfl, rfl⟩]
  · rw [if_neg h]
    by_cases h : a = 5 ∧ b = 0 ∧ c = 0 ∧ x = 4
    · obtain ⟨rfl, rfl, rfl, rfl⟩ := h
      rw [if_pos ⟨rfl, rfl, rfl, rfl⟩]
    · rw [if_neg h]
      by_cases h : a = 5 ∧ b = 0 ∧ c = 0 ∧ x = 3
      · obtain ⟨rfl, rfl, rfl, rfl⟩ := h
        rw [if_pos ⟨rfl, rfl, rfl, rfl⟩]
      · rw [if_neg h]
        by_cases h : a = 5 ∧ b = 0 ∧ c = 0 ∧ x = 2
        · obtain ⟨rfl, rfl, rfl, rfl⟩ := h
          rw [if_pos ⟨rfl, rfl, rfl, rfl⟩]
        · rw [if_neg h]
section RO
variable {M : m_Mem} {L : Nat}
theorem c_sgn (hL : L ≤ 60) (hl : M 5 0 0 1 = nI L) (hC : ∀ i, i < 60 → m_nok 2 (M 6 0 0 i) = true) (p k d v : Int32) (i : Nat) (hi : i < 2 ^ 31) : m_cl 36 [.ref (m_lc 5 0 0), .int (nI i)] (c_S M p k d v) = some (.inl (some (.int (c_sg (M 6 0 0) L i))), c_S M p k d v) := by
  have h := s_signAt L hL (c_S M p k d v) (by rw [c_S_1]; exact hl) (fun i hi => by rw [c_S_6 _ _ _ _ _ _ _ _ _ (by decide)]; exact hC i hi) i hi
  rw [h]
  unfold f_sg c_sg
  rw [c_S_6 _ _ _ _ _ _ _ _ _ (by decide)]
theorem c_sg_ok (hL : L ≤ 60) (hC : ∀ i, i < 60 → m_nok 2 (M 6 0 0 i) = true) (i : Nat) : m_nok 2 (c_sg (M 6 0 0) L i) = true := by
  unfold c_sg
  split
  · exact hC i (by omega)
  · exact m_nok32
theorem s_ro_l (hL : L ≤ 60) (hl : M 5 0 0 1 = nI L) (hC : ∀ i, i < 60 → m_nok 2 (M 6 0 0 i) = true) (k d : Int32) : ∀ (f a : Nat) (v : Int32), a < 1000 → L - a = f →
    m_E 41 84 [some (.ref (m_lc 5 0 0))] [] (c_S M (nI a) k d v) = some (.inl (some (.int 1)), c_S M (nI ((c_dn (M 6 0 0) L f a v).1 + 1)) k d (c_dn (M 6 0 0) L f a v).2) := by
  have sg := c_sgn hL hl hC
  intro f
  induction f with
  | zero =>
    intro a v ha hf
    have h1 : nI L ≤ nI a := nI_le (by omega) (by omega)
    simp only [e2_readOrder_84, e2_readOrder_85, e2_readOrder_88, e2_readOrder_89, e2_readOrder_92, m_k5, c_S_2, c_S_1, hl, h1, if_true]
    simp only [e2_readOrder_145, e2_readOrder_146, e2_readOrder_147, e2_readOrder_150, e2_readOrder_151, e2_readOrder_152, e2_readOrder_155, e2_readOrder_156, m_k5, c_S_2, c_S_s2, nI_1, m_nok11]
    rfl
  | succ f ih =>
    intro a v ha hf
    have h1 : ¬ nI L ≤ nI a := nI_ge (by omega) (by omega)
    have sg2 := fun p k d v => sg p k d v a (by omega)
    rw [e2_readOrder_84]
    rcases f_dg_c (c_sg (M 6 0 0) L a) with h2 | h2
    · have e : c_dn (M 6 0 0) L (f + 1) a v = c_dn (M 6 0 0) L f (a + 1) (10 * v + (c_sg (M 6 0 0) L a - 48)) := if_pos h2
      have ih2 := ih (a + 1) (10 * v + (c_sg (M 6 0 0) L a - 48)) (by omega) (by omega)
      rw [e]
      simp only [e2_readOrder_85, e2_readOrder_88, e2_readOrder_89, e2_readOrder_92, e2_readOrder_95, e2_readOrder_96, e2_readOrder_97, e2_readOrder_100, e2_readOrder_103, e2_readOrder_106, e2_readOrder_109, e2_readOrder_110, e2_readOrder_112, e2_readOrder_113, e2_readOrder_116, e2_readOrder_117, e2_readOrder_118, e2_readOrder_119, e2_readOrder_122, e2_readOrder_125, e2_readOrder_127, e2_readOrder_128, e2_readOrder_129, e2_readOrder_132, e2_readOrder_133, e2_readOrder_134, e2_readOrder_137, e2_readOrder_138, e2_readOrder_139, e2_readOrder_142, m_k5, c_S_2, c_S_1, c_S_5, c_S_s2, c_S_s5, hl, h1, h2, sg2, s_isDigit, nI_1, m_cE_i, m_cE_v, m_cE_ite, m_kill, (by decide : ¬ (1 : Int32) = 0), if_false]
      exact ih2
    · have e : c_dn (M 6 0 0) L (f + 1) a v = (a, v) := if_neg (by rw [h2]; decide)
      rw [e]
      simp only [e2_readOrder_85, e2_readOrder_88, e2_readOrder_89, e2_readOrder_92, e2_readOrder_95, e2_readOrder_96, e2_readOrder_97, e2_readOrder_100, e2_readOrder_103, e2_readOrder_106, m_k5, c_S_2, c_S_1, hl, h1, h2, sg2, s_isDigit, m_cE_i, m_cE_v, m_cE_ite, m_kill, if_true, if_false]
      simp only [e2_readOrder_145, e2_readOrder_146, e2_readOrder_147, e2_readOrder_150, e2_readOrder_151, e2_readOrder_152, e2_readOrder_155, e2_readOrder_156, m_k5, c_S_2, c_S_s2, nI_1, m_nok11]
/-- the memory behind the reading of an order at a -/
def c_R (M : m_Mem) (L a : Nat) : m_Mem := c_S M (nI ((c_n (M 6 0 0) L a).1 + 1)) (c_sg (M 6 0 0) L (c_a1 (M 6 0 0) L a)) (c_d (M 6 0 0) L a) (c_n (M 6 0 0) L a).2
theorem s_ro (hL : L ≤ 60) (hl : M 5 0 0 1 = nI L) (hC : ∀ i, i < 60 → m_nok 2 (M 6 0 0 i) = true) (a : Nat) (ha : a < L) (h2 : M 5 0 0 2 = nI a) : m_cl 41 [.ref (m_lc 5 0 0)] M = some (.inl (some (.int 1)), c_R M L a) := by
  have sg := c_sgn hL hl hC
  have hM := c_S_r M
  rw [h2] at hM
  have key : ∀ k d v, m_cl 41 [.ref (m_lc 5 0 0)] (c_S M (nI a) k d v) = some (.inl (some (.int 1)), c_R M L a) := by
    intro k d v
    rw [e2_readOrder_en]
    have h1 : nI a < nI L := nI_lt ha (by omega)
    have sg2 := fun p k d v => sg p k d v a (by omega)
    have sg3 := fun p k d v => sg p k d v (a + 1) (by omega)
    have ok1 := c_sg_ok hL hC a
    have ok2 := c_sg_ok hL hC (a + 1)
    unfold c_R c_n c_a1 c_d
    rcases f_dg_c (c_sg (M 6 0 0) L a) with h2 | h2
    · have lp := s_ro_l hL hl hC (c_sg (M 6 0 0) L (a + 1)) (c_sg (M 6 0 0) L a - 48) (L - (a + 1 + 1)) (a + 1 + 1) 0 (by omega) rfl
      simp only [e2_readOrder_0, e2_readOrder_1, e2_readOrder_4, e2_readOrder_5, e2_readOrder_8, e2_readOrder_11, e2_readOrder_12, e2_readOrder_13, e2_readOrder_14, e2_readOrder_15, e2_readOrder_18, e2_readOrder_19, e2_readOrder_20, e2_readOrder_23, e2_readOrder_24, e2_readOrder_25, e2_readOrder_28, e2_readOrder_31, e2_readOrder_34, e2_readOrder_37, e2_readOrder_38, e2_readOrder_39, e2_readOrder_40, e2_readOrder_43, e2_readOrder_46, e2_readOrder_48, e2_readOrder_49, e2_readOrder_52, e2_readOrder_53, e2_readOrder_54, e2_readOrder_57, e2_readOrder_58, e2_readOrder_59, e2_readOrder_62, e2_readOrder_63, e2_readOrder_64, e2_readOrder_65, e2_readOrder_68, e2_readOrder_71, e2_readOrder_74, e2_readOrder_75, e2_readOrder_76, e2_readOrder_79, e2_readOrder_80, e2_readOrder_81, m_k5, c_S_2, c_S_1, c_S_s2, c_S_s3, c_S_s4, c_S_s5, hl, h1, h2, sg2, sg3, s_isDigit, nI_1, ok2, m_cE_i, m_cE_v, m_cE_ite, m_kill, (by decide : ¬ (1 : Int32) = 0), if_true, if_false]
      exact lp
    · have lp := s_ro_l hL hl hC (c_sg (M 6 0 0) L a) (-1) (L - (a + 1)) (a + 1) 0 (by omega) rfl
      simp only [e2_readOrder_0, e2_readOrder_1, e2_readOrder_4, e2_readOrder_5, e2_readOrder_8, e2_readOrder_11, e2_readOrder_12, e2_readOrder_13, e2_readOrder_14, e2_readOrder_15, e2_readOrder_18, e2_readOrder_19, e2_readOrder_20, e2_readOrder_23, e2_readOrder_24, e2_readOrder_25, e2_readOrder_28, e2_readOrder_31, e2_readOrder_34, m_k5, c_S_2, c_S_1, c_S_s2, c_S_s3, c_S_s4, c_S_s5, hl, h1, h2, sg2, s_isDigit, nI_1, m_cE_i, m_cE_v, m_cE_ite, m_kill, (by decide : ¬ (0 : Int32) = 1), if_true, if_false]
      simp only [e2_readOrder_62, e2_readOrder_63, e2_readOrder_64, e2_readOrder_65, e2_readOrder_68, e2_readOrder_71, e2_readOrder_74, e2_readOrder_75, e2_readOrder_76, e2_readOrder_79, e2_readOrder_80, e2_readOrder_81, m_k5, c_S_2, c_S_1, c_S_s2, c_S_s3, sg2, nI_1, ok1, m_cE_i, m_cE_v, m_cE_ite, m_kill]
      exact lp
  have k2 := key (M 5 0 0 3) (M 5 0 0 4) (M 5 0 0 5)
  rw [hM] at k2
  exact k2
theorem s_ro_0 (hL : L ≤ 60) (hl : M 5 0 0 1 = nI L) (a : Nat) (ha : L ≤ a) (ha2 : a < 1000) (h2 : M 5 0 0 2 = nI a) : m_cl 41 [.ref (m_lc 5 0 0)] M = some (.inl (some (.int 0)), M) := by
  have h1 : ¬ nI a < nI L := nI_nlt ha (by omega)
  rw [e2_readOrder_en]
  simp only [e2_readOrder_0, e2_readOrder_1, e2_readOrder_4, e2_readOrder_5, e2_readOrder_8, e2_readOrder_11, e2_readOrder_12, m_k5, h2, hl, h1, if_false, m_nok10]
end RO
