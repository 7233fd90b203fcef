/-! THE MODEL: the safe fineness. -/
section MAPI6
variable {M : m_Mem} {p N B : Nat}
def k_lf (M : m_Mem) : Nat → Int32
  | 0 => -1
  | n + 1 => if M 16 0 0 (77 + 6 * n + 1) < 0 then k_lf M n else if k_lf M n < 0 ∨ M 16 0 0 (77 + 6 * n + 0) < k_lf M n then M 16 0 0 (77 + 6 * n + 0) else k_lf M n
theorem g_lf_l : ∀ (i n : Nat) (z : Option Value), n + i = 10 → ∃ z', m_E 174 4 [some (.ref (m_lc 15 0 0)), some (.int (k_lf M n)), some (.int (nI n)), z] [] M = m_E 174 60 [some (.ref (m_lc 15 0 0)), some (.int (k_lf M 10)), some (.int (nI 10)), z'] [] M := by
  intro i
  induction i with
  | zero =>
    intro n z hn
    have e : n = 10 := by omega
    subst e
    exact ⟨z, by simp only [e6_safe_4, e6_safe_5, e6_safe_7, (by decide : (10 : Int32) ≤ nI 10), if_true]⟩
  | succ i ih =>
    intro n z hn
    have hlt : n < 10 := by omega
    have hle : ¬ (10 : Int32) ≤ nI n := nI_ge (b := 10) hlt (by decide)
    by_cases h1 : M 16 0 0 (77 + 6 * n + 1) < 0
    · obtain ⟨z', ih2⟩ := ih (n + 1) (some (.int 0)) (by omega)
      have es : k_lf M (n + 1) = k_lf M n := if_pos h1
      rw [es] at ih2
      refine ⟨z', ?_⟩
      rw [e6_safe_4]
      simp only [e6_safe_5, e6_safe_7, e6_safe_10, e6_safe_11, e6_safe_12, e6_safe_13, e6_safe_16, e6_safe_19, e6_safe_20, e6_safe_23, e6_safe_24, e6_safe_25, e6_safe_26, e6_safe_29, e6_safe_30, e6_safe_33, e6_safe_34, e6_safe_37, e6_safe_38, e6_safe_39, e6_safe_40, e6_safe_43, e6_safe_44, e6_safe_45, e6_safe_46, e6_safe_49, e6_safe_52, e6_safe_53, e6_safe_54, e6_safe_57, hle, g_ofC1 n hlt, h1, m_kill, m_cE_i, m_cE_v, m_cE_ite, m_kill, if_false, if_true, nI_1]
      exact ih2
    · by_cases h2 : k_lf M n < 0
      · obtain ⟨z', ih2⟩ := ih (n + 1) (some (.int 1)) (by omega)
        have es : k_lf M (n + 1) = M 16 0 0 (77 + 6 * n + 0) := (if_neg h1).trans (if_pos (Or.inl h2))
        rw [es] at ih2
        refine ⟨z', ?_⟩
        rw [e6_safe_4]
        simp only [e6_safe_5, e6_safe_7, e6_safe_10, e6_safe_11, e6_safe_12, e6_safe_13, e6_safe_16, e6_safe_19, e6_safe_20, e6_safe_23, e6_safe_24, e6_safe_25, e6_safe_26, e6_safe_29, e6_safe_30, e6_safe_33, e6_safe_34, e6_safe_37, e6_safe_38, e6_safe_39, e6_safe_40, e6_safe_43, e6_safe_44, e6_safe_45, e6_safe_46, e6_safe_49, e6_safe_52, e6_safe_53, e6_safe_54, e6_safe_57, hle, g_ofC1 n hlt, g_ofC0 n hlt, h1, h2, m_kill, m_cE_i, m_cE_v, m_cE_ite, m_kill, if_false, if_true, nI_1, (by decide : ¬ (1 : Int32) = 0)]
        exact ih2
      · by_cases h3 : M 16 0 0 (77 + 6 * n + 0) < k_lf M n
        · obtain ⟨z', ih2⟩ := ih (n + 1) (some (.int 1)) (by omega)
          have h4 : ¬ k_lf M n ≤ M 16 0 0 (77 + 6 * n + 0) := Int32.not_le.mpr h3
          have es : k_lf M (n + 1) = M 16 0 0 (77 + 6 * n + 0) := (if_neg h1).trans (if_pos (Or.inr h3))
          rw [es] at ih2
          refine ⟨z', ?_⟩
          rw [e6_safe_4]
          simp only [e6_safe_5, e6_safe_7, e6_safe_10, e6_safe_11, e6_safe_12, e6_safe_13, e6_safe_16, e6_safe_19, e6_safe_20, e6_safe_23, e6_safe_24, e6_safe_25, e6_safe_26, e6_safe_29, e6_safe_30, e6_safe_33, e6_safe_34, e6_safe_37, e6_safe_38, e6_safe_39, e6_safe_40, e6_safe_43, e6_safe_44, e6_safe_45, e6_safe_46, e6_safe_49, e6_safe_52, e6_safe_53, e6_safe_54, e6_safe_57, hle, g_ofC1 n hlt, g_ofC0 n hlt, h1, h2, h3, h4, m_kill, m_cE_i, m_cE_v, m_cE_ite, m_kill, if_false, if_true, nI_1, (by decide : ¬ (1 : Int32) = 0)]
          exact ih2
        · obtain ⟨z', ih2⟩ := ih (n + 1) (some (.int 0)) (by omega)
          have h4 : k_lf M n ≤ M 16 0 0 (77 + 6 * n + 0) := Int32.not_lt.mp h3
          have es : k_lf M (n + 1) = k_lf M n := (if_neg h1).trans (if_neg (fun q => q.elim h2 h3))
          rw [es] at ih2
          refine ⟨z', ?_⟩
          rw [e6_safe_4]
          simp only [e6_safe_5, e6_safe_7, e6_safe_10, e6_safe_11, e6_safe_12, e6_safe_13, e6_safe_16, e6_safe_19, e6_safe_20, e6_safe_23, e6_safe_24, e6_safe_25, e6_safe_26, e6_safe_29, e6_safe_30, e6_safe_33, e6_safe_34, e6_safe_37, e6_safe_38, e6_safe_39, e6_safe_40, e6_safe_43, e6_safe_44, e6_safe_45, e6_safe_46, e6_safe_49, e6_safe_52, e6_safe_53, e6_safe_54, e6_safe_57, hle, g_ofC1 n hlt, g_ofC0 n hlt, h1, h2, h3, h4, m_kill, m_cE_i, m_cE_v, m_cE_ite, m_kill, if_false, if_true, nI_1]
          exact ih2
/-- the greatest fineness of 500 .. 499 + k at which 1000 grains cost w at most -/
def k_sd (M : m_Mem) (w : Int32) : Nat → Int32
  | 0 => -1
  | k + 1 => if w < k_price M 1000 (nI (500 + k)) then k_sd M w k else nI (500 + k)
theorem g_sd_l (v : Int32) (z : Option Value) : ∀ k : Nat, k ≤ 501 → m_E 174 72 [some (.ref (m_lc 15 0 0)), some (.int v), some (.int (nI (499 + k))), z] [] M = some (.inl (some (.int (k_sd M (k_worth M v) k))), M) := by
  intro k
  induction k with
  | zero =>
    intro _
    simp only [e6_safe_72, e6_safe_73, e6_safe_76, e6_safe_79, e6_safe_80, e6_safe_83, e6_safe_84, e6_safe_87, e6_safe_88, e6_safe_89, e6_safe_92, e6_safe_95, e6_safe_98, e6_safe_101, e6_safe_102, e6_safe_105, e6_safe_108, e6_safe_109, e6_safe_112, e6_safe_113, (by decide : nI (499 + 0) < 500), (by decide : ¬ 500 ≤ nI (499 + 0)), k_sd, if_true, if_false]
  | succ k ih =>
    intro hk
    have h5 : ¬ nI (499 + (k + 1)) < 500 := nI_nlt (a := 499 + (k + 1)) (b := 500) (by omega) (by omega)
    have h5b : 500 ≤ nI (499 + (k + 1)) := Int32.not_lt.mp h5
    have e500 : 499 + (k + 1) = 500 + k := by omega
    have ed : nI (500 + k) + -1 = nI (499 + k) := by
      rw [← Int32.sub_eq_add_neg, show 500 + k = (499 + k) + 1 from by omega]
      exact nI_pred (499 + k)
    have ih2 := ih (by omega)
    rw [e500] at h5 h5b ⊢
    rw [e6_safe_72]
    by_cases h : k_worth M v < k_price M 1000 (nI (500 + k))
    · have h2 : ¬ k_price M 1000 (nI (500 + k)) ≤ k_worth M v := Int32.not_le.mpr h
      simp only [e6_safe_73, e6_safe_76, e6_safe_79, e6_safe_80, e6_safe_83, e6_safe_84, e6_safe_87, e6_safe_88, e6_safe_89, e6_safe_92, e6_safe_95, e6_safe_98, h5, g_price, g_worth, h, h2, ed, m_kill, m_cE_i, m_cE_v, m_cE_ite, m_kill, if_false, if_true, k_sd]
      exact ih2
    · have h2 : k_price M 1000 (nI (500 + k)) ≤ k_worth M v := Int32.not_lt.mp h
      simp only [e6_safe_73, e6_safe_76, e6_safe_79, e6_safe_80, e6_safe_83, e6_safe_84, e6_safe_87, e6_safe_88, e6_safe_89, e6_safe_92, h5, g_price, g_worth, h, h2, m_kill, m_cE_i, m_cE_v, m_cE_ite, m_kill, if_false, if_true, k_sd]
      simp only [e6_safe_95, e6_safe_98, e6_safe_101, e6_safe_102, e6_safe_105, e6_safe_108, e6_safe_109, e6_safe_112, e6_safe_113, h5, h5b, if_false, if_true]
def k_sf (M : m_Mem) : Int32 := if k_lf M 10 < 0 then -1 else k_sd M (k_worth M (k_lf M 10)) 501
theorem g_safe : m_cl 174 [.ref (m_lc 15 0 0)] M = some (.inl (some (.int (k_sf M))), M) := by
  rw [e6_safe_en]
  unfold k_sf
  simp only [e6_safe_0, e6_safe_1, e6_safe_2, e6_safe_3, m_kill]
  obtain ⟨z', L⟩ := g_lf_l (M := M) 10 0 none rfl
  refine Eq.trans L ?_
  generalize k_lf M 10 = v
  by_cases h : v < 0
  · have h2 : ¬ 0 ≤ v := Int32.not_le.mpr h
    rw [if_pos h]
    simp only [e6_safe_60, e6_safe_61, e6_safe_64, e6_safe_65, e6_safe_68, e6_safe_71, e6_safe_72, e6_safe_73, e6_safe_76, e6_safe_79, e6_safe_80, e6_safe_83, e6_safe_84, e6_safe_87, e6_safe_88, e6_safe_89, e6_safe_92, e6_safe_95, e6_safe_98, e6_safe_101, e6_safe_102, e6_safe_105, e6_safe_108, e6_safe_109, e6_safe_112, e6_safe_113, h, h2, m_kill, (by decide : (0 : Int32) < 500), (by decide : ¬ (500 : Int32) ≤ 0), if_false, if_true]
  · have h2 : 0 ≤ v := Int32.not_lt.mp h
    have L2 := g_sd_l (M := M) v z' 501 (by decide)
    rw [if_neg h]
    simp only [e6_safe_60, e6_safe_61, e6_safe_64, e6_safe_65, e6_safe_68, e6_safe_71, h, h2, m_kill, if_false, if_true]
    exact L2
theorem h_safe : m_cl 175 [.ref (m_lc 15 0 0)] M = some (.inl (some (.int (k_sf (k_0 M)))), k_0 M) := by
  rw [e6_safeFineness_en]
  simp only [e6_safeFineness_0, e6_safeFineness_1, e6_safeFineness_2, e6_safeFineness_5, e6_safeFineness_6, e6_safeFineness_9, k_0_e, g_safe, m_kill, m_cE_i, m_cE_v, m_cE_ite, m_kill]
end MAPI6
