/-! THE MODEL's own methods. -/
theorem k_sv_o (M : m_Mem) (p a b c k : Nat) (h : a ≠ 17) (h4 : ¬ (a = 15 ∧ k = 4)) : k_sv M p a b c k = M a b c k := by
  unfold k_sv
  split
  · rw [m_set_n (fun q => h4 ⟨q.1, q.2.2.2⟩), k_bl_o _ _ _ _ _ _ _ _ _ _ h, m_set_n (fun q => h4 ⟨q.1, q.2.2.2⟩), k_bl_o _ _ _ _ _ _ _ _ _ _ h]
  · rw [m_set_n (fun q => h4 ⟨q.1, q.2.2.2⟩), k_bl_o _ _ _ _ _ _ _ _ _ _ h]
/-- nothing is thrown so far -/
def k_0 (M : m_Mem) : m_Mem := m_set M 15 0 0 5 0
theorem k_0_e (M : m_Mem) : m_set M 15 0 0 5 0 = k_0 M := rfl
theorem k_0_o (M : m_Mem) (a b c k : Nat) (h : ¬ (a = 15 ∧ k = 5)) : k_0 M a b c k = M a b c k := m_set_n (fun q => h ⟨q.1, q.2.2.2⟩)
theorem k_0_16 (M : m_Mem) (k : Nat) : k_0 M 16 0 0 k = M 16 0 0 k := k_0_o M 16 0 0 k (fun q => absurd q.1 (by decide))
/-- it fails with the number k -/
def k_x (M : m_Mem) (k : Int32) : Option m_R := some (.inl (some (.int 0)), m_set (k_0 M) 15 0 0 5 k)
def k_J (M : m_Mem) (p N B : Nat) : Prop := (p ≤ 6 ∧ M 15 0 0 4 = nI p) ∧ (N ≤ 8 ∧ M 16 0 0 1 = nI N) ∧ (B ≤ 12 ∧ M 16 0 0 5 = nI B)
theorem k_J_0 {M : m_Mem} {p N B : Nat} (h : k_J M p N B) : k_J (k_0 M) p N B := by
  unfold k_J at h ⊢
  rw [k_0_o M 15 0 0 4 (by decide), k_0_16, k_0_16]
  exact h
section MAPI
variable {M : m_Mem} {p N B : Nat}
def k_dg (M : m_Mem) (d : Nat) : Nat → m_Mem
  | 0 => M
  | i + 1 => m_set (k_dg M d i) 16 0 0 (13 + 8 * d + i) (if i = 2 then -1 else 0)
theorem g_dg_l (d : Nat) (hd : d < 8) (z : Option Value) : ∀ (k i : Nat), i + k = 8 → m_E 132 30 [some (.ref (m_lc 15 0 0)), some (.int (nI d)), some (.int (nI i))] [] (k_dg M d i) = m_E 132 66 [some (.ref (m_lc 15 0 0)), some (.int (nI d)), some (.int (nI 8))] [] (k_dg M d 8) := by
  intro k
  induction k with
  | zero =>
    intro i hi
    have e : i = 8 := by omega
    subst e
    simp only [e6_digger_30, e6_digger_31, e6_digger_33, e6_digger_36, e6_digger_37, e6_digger_40, e6_digger_42, e6_digger_44, e6_digger_45, e6_digger_46, e6_digger_47, e6_digger_48, e6_digger_49, e6_digger_50, e6_digger_51, e6_digger_54, e6_digger_55, e6_digger_58, e6_digger_59, e6_digger_60, e6_digger_63, (by decide : (8 : Int32) ≤ nI 8), if_true]
  | succ k ih =>
    intro i hi
    have hle : ¬ (8 : Int32) ≤ nI i := nI_ge (b := 8) (by omega) (by decide)
    have h1 : 13 + 8 * d + i < 173 := by omega
    have ih2 := ih (i + 1) (by omega)
    have es : k_dg M d (i + 1) = m_set (k_dg M d i) 16 0 0 (13 + 8 * d + i) (if i = 2 then -1 else 0) := rfl
    rw [es] at ih2
    rw [e6_digger_30]
    by_cases h2 : i = 2
    · have h3 : nI i = 2 := by rw [h2]; rfl
      rw [if_pos h2] at ih2
      simp only [e6_digger_31, e6_digger_33, e6_digger_36, e6_digger_37, e6_digger_40, e6_digger_42, e6_digger_44, e6_digger_45, e6_digger_46, e6_digger_47, e6_digger_48, e6_digger_49, e6_digger_50, e6_digger_51, e6_digger_54, e6_digger_55, e6_digger_58, e6_digger_59, e6_digger_60, e6_digger_63, hle, h1, eq_true h3, g_x8, g_a13, nI_add, nI_1, ne_eq, not_true_eq_false, if_true, if_false, not_false_eq_true]
      exact ih2
    · have h3 : ¬ nI i = 2 := fun q => h2 ((nI_eq (by omega) (by decide)).mp (q : nI i = nI 2))
      rw [if_neg h2] at ih2
      simp only [e6_digger_31, e6_digger_33, e6_digger_36, e6_digger_37, e6_digger_40, e6_digger_42, e6_digger_44, e6_digger_45, e6_digger_46, e6_digger_47, e6_digger_48, e6_digger_49, e6_digger_50, e6_digger_51, e6_digger_54, e6_digger_55, e6_digger_58, e6_digger_59, e6_digger_60, e6_digger_63, hle, h1, h3, g_x8, g_a13, nI_add, nI_1, ne_eq, if_true, if_false, not_false_eq_true]
      exact ih2
theorem h_digger (hJ : k_J M p N B) : m_cl 132 [.ref (m_lc 15 0 0)] M =
    if N < 8 then some (.inl (some (.int (nI N))), m_set (k_dg (k_sv (k_0 M) p) N 8) 16 0 0 1 (nI (N + 1))) else k_x M 1 := by
  have hJ0 := k_J_0 hJ
  rw [e6_digger_en]
  by_cases h : N < 8
  · have hne : ¬ nI N = 8 := fun q => by have := (nI_eq (a := N) (b := 8) (by omega) (by decide)).mp q; omega
    have hs := g_saves p hJ0.1.1 hJ0.1.2
    have L := g_dg_l (M := k_sv (k_0 M) p) N h none 8 0 rfl
    have e1 : k_dg (k_sv (k_0 M) p) N 8 16 0 0 1 = nI N := by
      have : ∀ i, k_dg (k_sv (k_0 M) p) N i 16 0 0 1 = nI N := by
        intro i
        induction i with
        | zero =>
          show k_sv (k_0 M) p 16 0 0 1 = nI N
          rw [k_sv_o _ _ _ _ _ _ (by decide) (fun q => absurd q.1 (by decide))]
          exact hJ0.2.1.2
        | succ i ih =>
          show m_set (k_dg (k_sv (k_0 M) p) N i) 16 0 0 (13 + 8 * N + i) _ 16 0 0 1 = nI N
          rw [m_set_n (fun q => by omega)]
          exact ih
      exact this 8
    rw [if_pos h]
    simp only [e6_digger_0, e6_digger_1, e6_digger_2, e6_digger_5, e6_digger_6, e6_digger_9, e6_digger_10, e6_digger_11, e6_digger_12, e6_digger_13, e6_digger_15, e6_digger_18, e6_digger_19, e6_digger_20, e6_digger_23, e6_digger_24, e6_digger_25, e6_digger_28, e6_digger_29, k_0_e, hJ0.2.1.2, hne, hs, m_kill, m_cE_i, m_cE_v, m_cE_ite, m_kill, ne_eq, if_true, if_false, not_false_eq_true]
    rw [show (0 : Int32) = nI 0 from rfl]
    refine Eq.trans L ?_
    simp only [e6_digger_66, e6_digger_67, e6_digger_70, e6_digger_71, e6_digger_72, e6_digger_73, e6_digger_74, e6_digger_75, e6_digger_76, e6_digger_77, e1, nI_1]
  · have e : N = 8 := by have := hJ.2.1.1; omega
    subst e
    rw [if_neg h]
    unfold k_x
    simp only [e6_digger_0, e6_digger_1, e6_digger_2, e6_digger_5, e6_digger_6, e6_digger_9, e6_digger_10, e6_digger_11, e6_digger_12, e6_digger_13, e6_digger_15, e6_digger_18, e6_digger_19, e6_digger_20, e6_digger_23, e6_digger_24, e6_digger_25, e6_digger_28, e6_digger_29, k_0_e, hJ0.2.1.2, (by decide : nI 8 = 8), g_fails, m_kill, m_cE_i, m_cE_v, m_cE_ite, m_kill, ne_eq, if_true, if_false, not_false_eq_true]
def k_ms (M : m_Mem) (d c : Int32) : Int32 := if f_is d (M 16 0 0 1) = 0 then 1 else if f_bw c 0 9 = 0 then 2 else if 0 ≤ M 16 0 0 (13 + 8 * d.toNatClampNeg + 2) ∨ 0 ≤ M 16 0 0 (77 + 6 * c.toNatClampNeg + 1) then 3 else 0
def k_st (M : m_Mem) (d c : Nat) : m_Mem := m_set (m_set (m_set (m_set M 16 0 0 (13 + 8 * d + 2) (nI c)) 16 0 0 (77 + 6 * c + 1) (nI d)) 16 0 0 (77 + 6 * c + 2) 0) 16 0 0 (77 + 6 * c + 5) 0
theorem k_ms_0 (hJ : k_J M p N B) {d c : Int32} (h : k_ms M d c = 0) : ∃ d' c', d' < N ∧ c' < 10 ∧ d = nI d' ∧ c = nI c' := by
  unfold k_ms at h
  rcases f_is_c d (M 16 0 0 1) with q | q
  · rcases f_bw_c c 0 9 with r | r
    · obtain ⟨c', hc, rfl⟩ := f_bw_0n (U := 9) r (by decide)
      obtain ⟨d', hd, rfl⟩ := f_is1 (N := N) (by have := hJ.2.1.1; omega) (by rw [← hJ.2.1.2]; exact q)
      exact ⟨d', c', hd, by omega, rfl, rfl⟩
    · rw [if_neg (by rw [q]; decide), if_pos r] at h
      exact absurd h (by decide)
  · rw [if_pos q] at h
    exact absurd h (by decide)
theorem k_ms_c (d c : Int32) : 0 < k_ms M d c ∨ k_ms M d c = 0 := by
  unfold k_ms
  split
  · exact Or.inl (by decide)
  · split
    · exact Or.inl (by decide)
    · split
      · exact Or.inl (by decide)
      · exact Or.inr rfl
theorem h_stake (hJ : k_J M p N B) (d c : Int32) : m_cl 134 [.ref (m_lc 15 0 0), .int d, .int c] M =
    if 0 < k_ms (k_0 M) d c then k_x M (k_ms (k_0 M) d c) else some (.inl (some (.int (k_tk (k_st (k_sv (k_0 M) p) d.toNatClampNeg c.toNatClampNeg) 10))), k_st (k_sv (k_0 M) p) d.toNatClampNeg c.toNatClampNeg) := by
  have hJ0 := k_J_0 hJ
  have hm : m_cl 121 [.ref (m_lc 15 0 0), .int d, .int c] (k_0 M) = some (.inl (some (.int (k_ms (k_0 M) d c))), k_0 M) := g_mayStake hJ0.2.1.1 hJ0.2.1.2 d c
  rw [e6_stake_en]
  rcases k_ms_c (M := k_0 M) d c with h | h
  · have h2 : ¬ k_ms (k_0 M) d c ≤ 0 := Int32.not_le.mpr h
    rw [if_pos h]
    unfold k_x
    simp only [e6_stake_0, e6_stake_1, e6_stake_2, e6_stake_5, e6_stake_6, e6_stake_7, e6_stake_8, e6_stake_11, e6_stake_12, e6_stake_13, e6_stake_16, e6_stake_17, e6_stake_18, e6_stake_21, e6_stake_22, e6_stake_23, e6_stake_26, e6_stake_27, e6_stake_28, e6_stake_29, e6_stake_32, e6_stake_33, e6_stake_36, k_0_e, hm, h2, g_fails, m_kill, m_cE_i, m_cE_v, m_cE_ite, m_kill, ne_eq, if_true, if_false, not_false_eq_true]
  · obtain ⟨d', c', hd, hc, rfl, rfl⟩ := k_ms_0 hJ0 h
    have cd : (nI d').toNatClampNeg = d' := nI_clamp (by have := hJ.2.1.1; omega)
    have cc : (nI c').toNatClampNeg = c' := nI_clamp (by omega)
    have hs := g_saves p hJ0.1.1 hJ0.1.2
    have hd8 : d' < 8 := by have := hJ.2.1.1; omega
    rw [if_neg (by rw [h]; decide)]
    simp only [e6_stake_0, e6_stake_1, e6_stake_2, e6_stake_5, e6_stake_6, e6_stake_7, e6_stake_8, e6_stake_11, e6_stake_12, e6_stake_13, e6_stake_16, e6_stake_17, e6_stake_18, e6_stake_21, e6_stake_22, e6_stake_23, e6_stake_26, e6_stake_27, e6_stake_28, e6_stake_29, e6_stake_32, e6_stake_33, e6_stake_36, k_0_e, hm, h, (by decide : (0 : Int32) ≤ 0), hs, g_stakes d' c' hd8 hc, g_staked, cd, cc, m_kill, m_cE_i, m_cE_v, m_cE_ite, m_kill, ne_eq, if_true, if_false, not_false_eq_true]
    rfl
end MAPI
