/-! THE MODEL: the end of a day; its own methods. -/
def k_id (M : m_Mem) (c : Nat) : Int32 := if M 16 0 0 (77 + 6 * c + 5) = 1 then 0 else M 16 0 0 (77 + 6 * c + 2) + 1
def k_fr (M : m_Mem) (d c : Nat) : m_Mem := m_set (m_set (m_set M 16 0 0 (13 + 8 * d + 2) (-1)) 16 0 0 (77 + 6 * c + 1) (-1)) 16 0 0 (77 + 6 * c + 2) 0
def k_p1 (M : m_Mem) (c : Nat) : m_Mem :=
  m_set (if M 16 0 0 (77 + 6 * c + 1) < 0 then M else
    let Ma := m_set M 16 0 0 (77 + 6 * c + 2) (k_id M c)
    if k_id M c < Ma 16 0 0 11 then Ma else
      let Mb := k_fr Ma (M 16 0 0 (77 + 6 * c + 1)).toNatClampNeg c
      m_set Mb 16 0 0 (77 + 6 * c + 4) (Mb 16 0 0 (77 + 6 * c + 4) + 1)) 16 0 0 (77 + 6 * c + 5) 0
def k_l1 (M : m_Mem) (c : Nat) : Int32 := if M 16 0 0 (77 + 6 * c + 1) < 0 then 0 else if k_id M c < M 16 0 0 11 then 0 else 1
def k_pn (M : m_Mem) : Nat → m_Mem
  | 0 => M
  | n + 1 => k_p1 (k_pn M n) n
def k_ln (M : m_Mem) : Nat → Int32
  | 0 => 0
  | n + 1 => k_ln M n + k_l1 (k_pn M n) n
section MODEL3
variable {M : m_Mem} {N : Nat}
theorem g_pass_l (hO : ∀ c, c < 10 → k_pn M c 16 0 0 (77 + 6 * c + 1) < 0 ∨ ∃ d, d < 8 ∧ k_pn M c 16 0 0 (77 + 6 * c + 1) = nI d) : ∀ (k n : Nat), n + k = 10 → m_E 131 4 [some (.ref (m_lc 15 0 0)), some (.int (k_ln M n)), some (.int (nI n))] [] (k_pn M n) = some (.inl (some (.int (k_ln M 10))), m_set (k_pn M 10) 16 0 0 0 (k_pn M 10 16 0 0 0 + 1)) := by
  intro k
  induction k with
  | zero =>
    intro n hn
    have e : n = 10 := by omega
    subst e
    simp only [e6_passes_4, e6_passes_5, e6_passes_7, e6_passes_10, e6_passes_11, e6_passes_12, e6_passes_13, e6_passes_16, e6_passes_19, e6_passes_20, e6_passes_21, e6_passes_22, e6_passes_23, e6_passes_24, e6_passes_25, e6_passes_28, e6_passes_29, e6_passes_32, e6_passes_33, e6_passes_36, e6_passes_37, e6_passes_38, e6_passes_39, e6_passes_42, e6_passes_43, e6_passes_44, e6_passes_47, e6_passes_48, e6_passes_49, e6_passes_50, e6_passes_53, e6_passes_54, e6_passes_57, e6_passes_59, e6_passes_60, e6_passes_63, e6_passes_64, e6_passes_65, e6_passes_68, e6_passes_69, e6_passes_70, e6_passes_71, e6_passes_72, e6_passes_73, e6_passes_74, e6_passes_77, e6_passes_78, e6_passes_79, e6_passes_82, e6_passes_85, e6_passes_86, e6_passes_87, e6_passes_88, e6_passes_89, e6_passes_92, e6_passes_95, e6_passes_98, e6_passes_99, e6_passes_102, e6_passes_103, e6_passes_104, e6_passes_105, e6_passes_106, e6_passes_107, e6_passes_108, e6_passes_109, (by decide : (10 : Int32) ≤ nI 10), if_true]
  | succ k ih =>
    intro n hn
    have hlt : n < 10 := by omega
    have hle : ¬ (10 : Int32) ≤ nI n := nI_ge (b := 10) hlt (by decide)
    have ih2 := ih (n + 1) (by omega)
    have ef : k_pn M (n + 1) = k_p1 (k_pn M n) n := rfl
    have el : k_ln M (n + 1) = k_ln M n + k_l1 (k_pn M n) n := rfl
    rw [ef, el] at ih2
    have ho := hO n hlt
    clear ih ef el hO
    rw [e6_passes_4]
    generalize k_pn M n = K at ih2 ho ⊢
    generalize k_ln M n = lp at ih2 ⊢
    by_cases h0 : K 16 0 0 (77 + 6 * n + 1) < 0
    · have e1 : k_p1 K n = m_set K 16 0 0 (77 + 6 * n + 5) 0 := by unfold k_p1; rw [if_pos h0]
      have e2 : k_l1 K n = 0 := if_pos h0
      rw [e1, e2, Int32.add_zero] at ih2
      simp only [e6_passes_5, e6_passes_7, e6_passes_10, e6_passes_11, e6_passes_12, e6_passes_13, e6_passes_16, e6_passes_19, e6_passes_20, e6_passes_21, e6_passes_22, e6_passes_23, e6_passes_24, e6_passes_25, e6_passes_28, e6_passes_29, e6_passes_32, e6_passes_33, e6_passes_36, e6_passes_37, e6_passes_38, e6_passes_39, e6_passes_42, e6_passes_43, e6_passes_44, e6_passes_47, e6_passes_48, e6_passes_49, e6_passes_50, e6_passes_53, e6_passes_54, e6_passes_57, e6_passes_59, e6_passes_60, e6_passes_63, e6_passes_64, e6_passes_65, e6_passes_68, e6_passes_69, e6_passes_70, e6_passes_71, e6_passes_72, e6_passes_73, e6_passes_74, e6_passes_77, e6_passes_78, e6_passes_79, e6_passes_82, e6_passes_85, e6_passes_86, e6_passes_87, e6_passes_88, e6_passes_89, e6_passes_92, e6_passes_95, hle, g_ofC1 n hlt, h0, g_lays5 n hlt, m_cE_i, m_cE_v, m_cE_ite, m_kill, if_false, if_true, nI_1]
      exact ih2
    · obtain ⟨d, hd, hod⟩ := ho.resolve_left h0
      have hid : m_E 131 44 [some (.ref (m_lc 15 0 0)), some (.int lp), some (.int (nI n))] [.int (k_id K n), .int 2, .int (nI n), .ref (m_lc 15 0 0)] K = m_E 131 47 [some (.ref (m_lc 15 0 0)), some (.int lp), some (.int (nI n))] [] (m_set K 16 0 0 (77 + 6 * n + 2) (k_id K n)) := by
        simp only [e6_passes_44, g_lays2 n hlt, m_cE_i, m_cE_v, m_cE_ite, m_kill]
      have htail : ∀ (K' : m_Mem) (lp' : Int32), k_p1 K n = m_set K' 16 0 0 (77 + 6 * n + 5) 0 → lp' = lp + k_l1 K n → m_E 131 85 [some (.ref (m_lc 15 0 0)), some (.int lp'), some (.int (nI n))] [] K' = some (.inl (some (.int (k_ln M 10))), m_set (k_pn M 10) 16 0 0 0 (k_pn M 10 16 0 0 0 + 1)) := by
        intro K' lp' q1 q2
        rw [q1, ← q2] at ih2
        simp only [e6_passes_85, e6_passes_86, e6_passes_87, e6_passes_88, e6_passes_89, e6_passes_92, e6_passes_95, g_lays5 n hlt, m_cE_i, m_cE_v, m_cE_ite, m_kill, nI_1]
        exact ih2
      have hhead : m_E 131 44 [some (.ref (m_lc 15 0 0)), some (.int lp), some (.int (nI n))] [.int (k_id K n), .int 2, .int (nI n), .ref (m_lc 15 0 0)] K = some (.inl (some (.int (k_ln M 10))), m_set (k_pn M 10) 16 0 0 0 (k_pn M 10 16 0 0 0 + 1)) := by
        rw [hid]
        generalize hKa : m_set K 16 0 0 (77 + 6 * n + 2) (k_id K n) = Ka
        have a2 : Ka 16 0 0 (77 + 6 * n + 2) = k_id K n := by rw [← hKa, m_set_i]
        have a11 : Ka 16 0 0 11 = K 16 0 0 11 := by rw [← hKa, m_set_n (fun q => by omega)]
        have a1 : Ka 16 0 0 (77 + 6 * n + 1) = nI d := by rw [← hKa, m_set_n (fun q => by omega)]; exact hod
        by_cases h1 : k_id K n < K 16 0 0 11
        · simp only [e6_passes_47, e6_passes_48, e6_passes_49, e6_passes_50, e6_passes_53, e6_passes_54, e6_passes_57, e6_passes_59, e6_passes_60, g_ofC2 n hlt, a2, a11, h1, m_cE_i, m_cE_v, m_cE_ite, m_kill, if_true]
          refine htail Ka lp ?_ ?_
          · unfold k_p1
            rw [if_neg h0]
            dsimp only
            rw [hKa, if_pos (by rw [a11]; exact h1)]
          · rw [show k_l1 K n = 0 from (if_neg h0).trans (if_pos h1), Int32.add_zero]
        · simp only [e6_passes_47, e6_passes_48, e6_passes_49, e6_passes_50, e6_passes_53, e6_passes_54, e6_passes_57, e6_passes_59, e6_passes_60, e6_passes_63, e6_passes_64, e6_passes_65, e6_passes_68, e6_passes_69, e6_passes_70, e6_passes_71, e6_passes_72, e6_passes_73, e6_passes_74, e6_passes_77, e6_passes_78, e6_passes_79, e6_passes_82, g_ofC2 n hlt, a2, a11, h1, g_frees d n hd hlt Ka a1, g_ofC4 n hlt, g_lays4 n hlt, m_cE_i, m_cE_v, m_cE_ite, m_kill, if_false]
          refine htail _ _ ?_ ?_
          · unfold k_p1
            rw [if_neg h0]
            dsimp only
            rw [hKa, if_neg (by rw [a11]; exact h1), hod, nI_clamp (by omega)]
            rfl
          · rw [show k_l1 K n = 1 from (if_neg h0).trans (if_neg h1)]
      by_cases h5 : K 16 0 0 (77 + 6 * n + 5) = 1
      · have e5 : k_id K n = 0 := if_pos h5
        rw [e5] at hhead
        simp only [e6_passes_5, e6_passes_7, e6_passes_10, e6_passes_11, e6_passes_12, e6_passes_13, e6_passes_16, e6_passes_19, e6_passes_20, e6_passes_21, e6_passes_22, e6_passes_23, e6_passes_24, e6_passes_25, e6_passes_28, e6_passes_29, e6_passes_32, e6_passes_33, e6_passes_36, e6_passes_37, e6_passes_38, e6_passes_39, e6_passes_42, e6_passes_43, hle, g_ofC1 n hlt, h0, g_ofC5 n hlt, h5, m_cE_i, m_cE_v, m_cE_ite, m_kill, ne_eq, if_true, if_false, not_false_eq_true]
        exact hhead
      · have e5 : k_id K n = K 16 0 0 (77 + 6 * n + 2) + 1 := if_neg h5
        rw [e5] at hhead
        simp only [e6_passes_5, e6_passes_7, e6_passes_10, e6_passes_11, e6_passes_12, e6_passes_13, e6_passes_16, e6_passes_19, e6_passes_20, e6_passes_21, e6_passes_22, e6_passes_23, e6_passes_24, e6_passes_25, e6_passes_28, e6_passes_29, e6_passes_32, e6_passes_33, e6_passes_36, e6_passes_37, e6_passes_38, e6_passes_39, e6_passes_42, e6_passes_43, hle, g_ofC1 n hlt, h0, g_ofC5 n hlt, g_ofC2 n hlt, h5, m_cE_i, m_cE_v, m_cE_ite, m_kill, ne_eq, if_true, if_false, not_false_eq_true]
        exact hhead
theorem g_passes (hO : ∀ c, c < 10 → k_pn M c 16 0 0 (77 + 6 * c + 1) < 0 ∨ ∃ d, d < 8 ∧ k_pn M c 16 0 0 (77 + 6 * c + 1) = nI d) : m_cl 131 [.ref (m_lc 15 0 0)] M = some (.inl (some (.int (k_ln M 10))), m_set (k_pn M 10) 16 0 0 0 (k_pn M 10 16 0 0 0 + 1)) := by
  rw [e6_passes_en]
  simp only [e6_passes_0, e6_passes_1, e6_passes_2, e6_passes_3, m_kill]
  exact g_pass_l hO 10 0 rfl
def k_tk (M : m_Mem) : Nat → Int32
  | 0 => 0
  | n + 1 => if M 16 0 0 (77 + 6 * n + 1) < 0 then k_tk M n + 0 else k_tk M n + 1
theorem g_staked_l : ∀ (k n : Nat), n + k = 10 → m_E 133 4 [some (.ref (m_lc 15 0 0)), some (.int (k_tk M n)), some (.int (nI n))] [] M = some (.inl (some (.int (k_tk M 10))), M) := by
  intro k
  induction k with
  | zero =>
    intro n hn
    have e : n = 10 := by omega
    subst e
    simp only [e6_staked_4, e6_staked_5, e6_staked_7, e6_staked_10, e6_staked_11, e6_staked_12, e6_staked_13, e6_staked_14, e6_staked_17, e6_staked_20, e6_staked_21, e6_staked_24, e6_staked_25, e6_staked_26, e6_staked_27, e6_staked_30, e6_staked_33, e6_staked_34, (by decide : (10 : Int32) ≤ nI 10), if_true]
  | succ k ih =>
    intro n hn
    have hlt : n < 10 := by omega
    have hle : ¬ (10 : Int32) ≤ nI n := nI_ge (b := 10) hlt (by decide)
    have ih2 := ih (n + 1) (by omega)
    rw [e6_staked_4]
    by_cases h0 : M 16 0 0 (77 + 6 * n + 1) < 0
    · simp only [k_tk, h0, if_true] at ih2
      simp only [e6_staked_5, e6_staked_7, e6_staked_10, e6_staked_11, e6_staked_12, e6_staked_13, e6_staked_14, e6_staked_17, e6_staked_20, e6_staked_21, e6_staked_24, e6_staked_25, e6_staked_26, e6_staked_27, e6_staked_30, hle, g_ofC1 n hlt, h0, m_cE_i, m_cE_v, m_cE_ite, m_kill, if_false, if_true, nI_1]
      exact ih2
    · simp only [k_tk, h0, if_false] at ih2
      simp only [e6_staked_5, e6_staked_7, e6_staked_10, e6_staked_11, e6_staked_12, e6_staked_13, e6_staked_14, e6_staked_17, e6_staked_20, e6_staked_21, e6_staked_24, e6_staked_25, e6_staked_26, e6_staked_27, e6_staked_30, hle, g_ofC1 n hlt, h0, m_cE_i, m_cE_v, m_cE_ite, m_kill, if_false, nI_1]
      exact ih2
theorem g_staked : m_cl 133 [.ref (m_lc 15 0 0)] M = some (.inl (some (.int (k_tk M 10))), M) := by
  rw [e6_staked_en]
  simp only [e6_staked_0, e6_staked_1, e6_staked_2, e6_staked_3, m_kill]
  exact g_staked_l 10 0 rfl
end MODEL3
