/-! THE MODEL: first error; its digest, by pieces. -/
section DIG
variable {M : m_Mem} {p N B : Nat}
theorem h_firstError (L : Nat) (hL : L ≤ 60) (h7 : M 15 0 0 7 = nI L) : m_cl 151 [.ref (m_lc 15 0 0)] M =
    (let r := k_tx L (L + 1) (m_set (m_set (k_0 M) 15 0 0 8 0) 15 0 0 9 0)
    some (.inl (some (.int (if r.1 = 0 then r.2 15 0 0 8 else r.2 15 0 0 7))), r.2)) := by
  have e7 : k_0 M 15 0 0 7 = nI L := by rw [k_0_o _ _ _ _ _ (by decide)]; exact h7
  have ht := g_text L hL (k_0 M) e7
  rw [e6_firstError_en]
  dsimp only
  generalize k_tx L (L + 1) (m_set (m_set (k_0 M) 15 0 0 8 0) 15 0 0 9 0) = r at ht ⊢
  by_cases h : r.1 = 0
  · simp only [e6_firstError_0, e6_firstError_1, e6_firstError_2, e6_firstError_5, e6_firstError_6, e6_firstError_9, e6_firstError_12, e6_firstError_13, e6_firstError_16, e6_firstError_19, e6_firstError_20, e6_firstError_23, k_0_e, ht, h, m_kill, m_cE_i, m_cE_v, m_cE_ite, m_kill, ne_eq, not_true_eq_false, if_true, if_false, not_false_eq_true]
  · simp only [e6_firstError_0, e6_firstError_1, e6_firstError_2, e6_firstError_5, e6_firstError_6, e6_firstError_9, e6_firstError_12, e6_firstError_13, e6_firstError_16, e6_firstError_19, e6_firstError_20, e6_firstError_23, k_0_e, ht, h, m_kill, m_cE_i, m_cE_v, m_cE_ite, m_kill, ne_eq, if_true, if_false, not_false_eq_true]
theorem g_d1 (hJ : k_J M p N B) : ∀ (i n : Nat), n + i = 17 → m_E 178 11 [some (.ref (m_lc 15 0 0)), some (.long (f_h 3119 (k_num M p N B) n)), none, some (.int (nI n))] [] M = m_E 178 36 [some (.ref (m_lc 15 0 0)), some (.long (f_h 3119 (k_num M p N B) 17)), none, some (.int (nI 17))] [] M := by
  intro i
  induction i with
  | zero =>
    intro n hn
    have e : n = 17 := by omega
    subst e
    simp only [e6_digest_11, e6_digest_12, e6_digest_14, e6_digest_17, e6_digest_20, e6_digest_21, e6_digest_22, e6_digest_23, e6_digest_24, e6_digest_27, e6_digest_28, e6_digest_29, e6_digest_30, e6_digest_33, (by decide : (17 : Int32) ≤ nI 17), if_true]
  | succ i ih =>
    intro n hn
    have hle : ¬ (17 : Int32) ≤ nI n := nI_ge (b := 17) (by omega) (by decide)
    have ih2 := ih (n + 1) (by omega)
    rw [e6_digest_11]
    simp only [e6_digest_12, e6_digest_14, e6_digest_17, e6_digest_20, e6_digest_21, e6_digest_22, e6_digest_23, e6_digest_24, e6_digest_27, e6_digest_28, e6_digest_29, e6_digest_30, e6_digest_33, hle, g_counted hJ n (by omega), m_kill, m_cE_i, m_cE_v, m_cE_ite, m_kill, if_false, nI_1]
    exact ih2
theorem g_d2 (h : Int64) : ∀ (i n : Nat), n + i = 5 → m_E 178 38 [some (.ref (m_lc 15 0 0)), some (.long (f_h h (fun k => M 16 0 0 (8 + k)) n)), none, some (.int (nI n))] [] M = m_E 178 66 [some (.ref (m_lc 15 0 0)), some (.long (f_h h (fun k => M 16 0 0 (8 + k)) 5)), none, some (.int (nI 5))] [] M := by
  intro i
  induction i with
  | zero =>
    intro n hn
    have e : n = 5 := by omega
    subst e
    simp only [e6_digest_38, e6_digest_39, e6_digest_40, e6_digest_43, e6_digest_46, e6_digest_47, e6_digest_48, e6_digest_49, e6_digest_52, e6_digest_54, e6_digest_55, e6_digest_56, e6_digest_57, e6_digest_58, e6_digest_59, e6_digest_60, e6_digest_63, (by decide : (5 : Int32) ≤ nI 5), if_true]
  | succ i ih =>
    intro n hn
    have hle : ¬ (5 : Int32) ≤ nI n := nI_ge (b := 5) (by omega) (by decide)
    have hix : 8 + n < 173 := by omega
    have ih2 := ih (n + 1) (by omega)
    rw [e6_digest_38]
    simp only [e6_digest_39, e6_digest_40, e6_digest_43, e6_digest_46, e6_digest_47, e6_digest_48, e6_digest_49, e6_digest_52, e6_digest_54, e6_digest_55, e6_digest_56, e6_digest_57, e6_digest_58, e6_digest_59, e6_digest_60, e6_digest_63, hle, g_a8, hix, m_kill, m_cE_i, m_cE_v, m_cE_ite, m_kill, if_false, nI_1]
    exact ih2
end DIG
