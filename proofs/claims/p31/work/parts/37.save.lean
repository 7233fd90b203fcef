/-! FINESCRIP, saving. -/
theorem m_k1d : m_dom 1 0 0 = true := rfl
theorem nI_nat {v : Int32} (h : 0 ≤ v) : ∃ k, k < 2 ^ 31 ∧ v = nI k := by
  have h1 : (0 : Int32).toInt ≤ v.toInt := Int32.le_iff_toInt_le.mp h
  have e0 : (0 : Int32).toInt = 0 := by decide
  have h2 : v.toInt < 2 ^ 31 := v.toInt_lt
  refine ⟨v.toInt.toNat, by omega, Int32.toInt_inj.mp ?_⟩
  rw [nI_toInt (by omega)]
  omega
theorem nI_below {v : Int32} {N : Nat} (h : 0 ≤ v) (h2 : v < nI N) (hN : N < 2 ^ 31) : ∃ k, k < N ∧ v = nI k := by
  obtain ⟨k, hk, rfl⟩ := nI_nat h
  refine ⟨k, ?_, rfl⟩
  exact Decidable.byContradiction fun q => absurd h2 (nI_nlt (by omega) hk)
theorem nI_upto {v : Int32} {N : Nat} (h : 0 ≤ v) (h2 : v ≤ nI N) (hN : N < 2 ^ 31) : ∃ k, k ≤ N ∧ v = nI k := by
  obtain ⟨k, hk, rfl⟩ := nI_nat h
  refine ⟨k, ?_, rfl⟩
  exact Decidable.byContradiction fun q => absurd h2 (nI_ge (by omega) hk)
def f_q (M : m_Mem) (i : Nat) : Nat := (M 4 0 0 i).toNatClampNeg
def f_ro (M : m_Mem) (i : Nat) : m_Mem := fun a b c k => if a = 4 ∧ b = 0 ∧ c = 0 ∧ k < i then M 4 0 0 (k + 1) else M a b c k
def f_rot (M : m_Mem) : m_Mem := fun a b c k => if a = 4 ∧ b = 0 ∧ c = 0 ∧ k < 6 then M 4 0 0 (if k = 5 then 0 else k + 1) else M a b c k
def f_Q (M : m_Mem) : Prop := ∀ i, i < 6 → f_q M i < 6 ∧ M 4 0 0 i = nI (f_q M i)
theorem f_ro_s (M : m_Mem) (m : Nat) : m_set (f_ro M m) 4 0 0 m (M 4 0 0 (m + 1)) = f_ro M (m + 1) := by
  funext a b c k
  rw [m_set_at]
  unfold f_ro
  by_cases h : a = 4 ∧ b = 0 ∧ c = 0
  · obtain ⟨rfl, rfl, rfl⟩ := h
    by_cases hk : k = m
    · subst hk
      rw [if_pos ⟨rfl, rfl, rfl, rfl⟩, if_pos ⟨rfl, rfl, rfl, by omega⟩]
    · rw [if_neg (fun q => hk q.2.2.2)]
      by_cases hk2 : k < m
      · rw [if_pos ⟨rfl, rfl, rfl, hk2⟩, if_pos ⟨rfl, rfl, rfl, by omega⟩]
      · rw [if_neg (fun q => hk2 q.2.2.2), if_neg (fun q => by omega)]
  · rw [if_neg (fun q => h ⟨q.1, q.2.1, q.2.2.1⟩), if_neg (fun q => h ⟨q.1, q.2.1, q.2.2.1⟩), if_neg (fun q => h ⟨q.1, q.2.1, q.2.2.1⟩)]
theorem f_ro_0 (M : m_Mem) : f_ro M 0 = M := by
  funext a b c k
  unfold f_ro
  rw [if_neg (fun q => absurd q.2.2.2 (Nat.not_lt_zero _))]
theorem f_ro_e (M : m_Mem) : m_set (f_ro M 5) 4 0 0 5 (M 4 0 0 0) = f_rot M := by
  funext a b c k
  rw [m_set_at]
  unfold f_ro f_rot
  by_cases h : a = 4 ∧ b = 0 ∧ c = 0
  · obtain ⟨rfl, rfl, rfl⟩ := h
    by_cases hk : k = 5
    · subst hk
      rw [if_pos ⟨rfl, rfl, rfl, rfl⟩, if_pos ⟨rfl, rfl, rfl, by omega⟩, if_pos rfl]
    · rw [if_neg (fun q => hk q.2.2.2)]
      by_cases hk2 : k < 5
      · rw [if_pos ⟨rfl, rfl, rfl, hk2⟩, if_pos ⟨rfl, rfl, rfl, by omega⟩, if_neg hk]
      · rw [if_neg (fun q => hk2 q.2.2.2), if_neg (fun q => by omega)]
  · rw [if_neg (fun q => h ⟨q.1, q.2.1, q.2.2.1⟩), if_neg (fun q => h ⟨q.1, q.2.1, q.2.2.1⟩), if_neg (fun q => h ⟨q.1, q.2.1, q.2.2.1⟩)]
theorem s_rot_l (M : m_Mem) (hQ : f_Q M) (z : Nat) : ∀ (k m : Nat), m + k = 5 → m_E 76 18 [some (.ref (m_lc 1 0 0)), some (.ref z), some (.int (nI (m + 1)))] [] (f_ro M m) = m_E 76 44 [some (.ref (m_lc 1 0 0)), some (.ref z), some (.int (nI 6))] [] (f_ro M 5) := by
  intro k
  induction k with
  | zero =>
    intro m hm
    have e : m = 5 := by omega
    subst e
    simp only [e5_saveState_18, e5_saveState_19, e5_saveState_21, e5_saveState_24, e5_saveState_25, e5_saveState_28, e5_saveState_29, e5_saveState_30, e5_saveState_31, e5_saveState_32, e5_saveState_35, e5_saveState_36, e5_saveState_37, e5_saveState_38, e5_saveState_41, (by decide : (6 : Int32) ≤ nI (5 + 1)), if_true]
  | succ k ih =>
    intro m hm
    have hlt : m + 1 < 6 := by omega
    have hlt0 : m < 6 := by omega
    have hle : ¬ (6 : Int32) ≤ nI (m + 1) := nI_ge hlt (by decide)
    obtain ⟨q1, q2⟩ := hQ (m + 1) hlt
    have er : f_ro M m 4 0 0 (m + 1) = nI (f_q M (m + 1)) := by
      unfold f_ro
      rw [if_neg (fun q => by omega)]
      exact q2
    have ec : (nI (f_q M (m + 1))).toNatClampNeg = f_q M (m + 1) := nI_clamp (by omega)
    have e3 : 3 + f_q M (m + 1) - 3 = f_q M (m + 1) := by omega
    have h3 : 3 ≤ 3 + f_q M (m + 1) := by omega
    have h9 : 3 + f_q M (m + 1) < 9 := by omega
    have es := f_ro_s M m
    rw [q2] at es
    rw [e5_saveState_18]
    simp only [e5_saveState_19, e5_saveState_21, e5_saveState_24, e5_saveState_25, e5_saveState_28, e5_saveState_29, e5_saveState_30, e5_saveState_31, e5_saveState_32, e5_saveState_35, e5_saveState_36, e5_saveState_37, e5_saveState_38, e5_saveState_41, hle, hlt, hlt0, nI_pred, er, ec, h3, h9, e3, es, if_false, m_cE_i, m_cE_v, m_cE_ite, m_kill, nI_1]
    exact ih (m + 1) (by omega)
def f_sv (M : m_Mem) (n : Nat) : m_Mem :=
  if n < 6 then m_set (f_cm M (3 + f_q M n) 0) 1 0 0 5 (nI (n + 1))
  else m_set (f_cm (m_set (f_rot M) 1 0 0 5 5) (3 + f_q M 0) 0) 1 0 0 5 6
theorem f_cm_1 (M : m_Mem) (j j2 k : Nat) : f_cm M j j2 1 0 0 k = M 1 0 0 k := by
  unfold f_cm
  rw [m_set_n (fun q => absurd q.1 (by decide)), m_set_n (fun q => absurd q.1 (by decide)), m_set_n (fun q => absurd q.1 (by decide)), m_set_n (fun q => absurd q.1 (by decide)), m_set_n (fun q => absurd q.1 (by decide)), m_cpy_at, if_neg (fun q => absurd q.1 (by decide)), m_cp_at, if_neg (fun q => absurd q.1 (by decide))]
  unfold f_blk
  rw [if_neg (fun q => absurd q.1 (by decide)), if_neg (fun q => absurd q.1 (by decide)), if_neg (fun q => absurd q.1 (by decide))]
theorem s_save (M : m_Mem) (hQ : f_Q M) (n : Nat) (hn : n ≤ 6) (hc : M 1 0 0 5 = nI n) (hB : ∀ c, c < 10 → m_nok 1 (M 13 0 c 3) = true) : m_cl 76 [.ref (m_lc 1 0 0)] M = some (.inl none, f_sv M n) := by
  rw [e5_saveState_en]
  unfold f_sv
  by_cases h : n < 6
  · have hlt : nI n < 6 := (nI_lt h (by decide) : nI n < nI 6)
    obtain ⟨q1, q2⟩ := hQ n h
    have ec : (M 4 0 0 n).toNatClampNeg = f_q M n := rfl
    have hd := m_d7 (show 3 + f_q M n < 9 by omega)
    have hcp := s_copy (3 + f_q M n) 0 (by omega) (by decide) (by omega) M hB
    simp only [e5_saveState_0, e5_saveState_1, e5_saveState_4, e5_saveState_6, e5_saveState_9, hc, hlt, if_true]
    rw [if_pos h]
    simp only [e5_saveState_56, e5_saveState_57, e5_saveState_60, e5_saveState_61, e5_saveState_64, e5_saveState_65, e5_saveState_66, e5_saveState_69, e5_saveState_72, e5_saveState_73, e5_saveState_74, e5_saveState_77, e5_saveState_78, e5_saveState_79, e5_saveState_82, hc, h, ec, hd, hcp, f_cm_1, m_cE_i, m_cE_v, m_cE_ite, m_kill, nI_1]
  · have e : n = 6 := by omega
    subst e
    have hlt : ¬ nI 6 < 6 := by decide
    obtain ⟨q1, q2⟩ := hQ 0 (by decide)
    have ec : (M 4 0 0 0).toNatClampNeg = f_q M 0 := rfl
    have h06 : 0 < 6 := by decide
    have h56 : 5 < 6 := by decide
    have L := s_rot_l M hQ (m_lc 7 (3 + f_q M 0) 0) 5 0 rfl
    rw [f_ro_0] at L
    have h3 : 3 ≤ 3 + f_q M 0 := by omega
    have h9 : 3 + f_q M 0 < 9 := by omega
    have e3 : 3 + f_q M 0 - 3 = f_q M 0 := by omega
    have es := f_ro_e M
    rw [q2] at es
    have hB2 : ∀ c, c < 10 → m_nok 1 (m_set (f_rot M) 1 0 0 5 5 13 0 c 3) = true := by
      intro c hc
      rw [m_set_n (fun q => absurd q.1 (by decide))]
      unfold f_rot
      rw [if_neg (fun q => absurd q.1 (by decide))]
      exact hB c hc
    have hcp := s_copy (3 + f_q M 0) 0 h9 (by decide) (by omega) (m_set (f_rot M) 1 0 0 5 5) hB2
    have e45 : m_set (f_rot M) 1 0 0 5 5 4 0 0 5 = nI (f_q M 0) := by
      rw [m_set_n (fun q => absurd q.1 (by decide))]
      unfold f_rot
      rw [if_pos ⟨rfl, rfl, rfl, by decide⟩]
      exact q2
    have ecl : (nI (f_q M 0)).toNatClampNeg = f_q M 0 := nI_clamp (by omega)
    have hd := m_d7 h9
    rw [if_neg h]
    have k0 : (0 : Int32) = nI 0 := rfl
    have k5 : (5 : Int32) = nI 5 := rfl
    have k1 : (1 : Int32) = nI (0 + 1) := rfl
    simp only [e5_saveState_0, e5_saveState_1, e5_saveState_4, e5_saveState_6, e5_saveState_9, hc, hlt, if_false]
    simp only [e5_saveState_10, e5_saveState_13]
    simp only [e5_saveState_14, e5_saveState_15, e5_saveState_16, e5_saveState_17, ec, m_kill]
    rw [k1, L]
    simp only [e5_saveState_44, e5_saveState_45, e5_saveState_48]
    rw [k5]
    simp only [e5_saveState_49, e5_saveState_50, h56, h3, h9, e3, es]
    simp only [e5_saveState_51, e5_saveState_52, e5_saveState_53, e5_saveState_56, e5_saveState_57, e5_saveState_60, m_set_i]
    rw [e5_saveState_61, m_set_i, k5]
    have e45' : m_set (f_rot M) 1 0 0 5 (nI 5) 4 0 0 5 = nI (f_q M 0) := e45
    have hcp' : m_cl 1 [.ref (m_lc 7 (3 + f_q M 0) 0), .ref (m_lc 7 0 0)] (m_set (f_rot M) 1 0 0 5 (nI 5)) = some (.inl none, f_cm (m_set (f_rot M) 1 0 0 5 (nI 5)) (3 + f_q M 0) 0) := hcp
    simp only [e5_saveState_64, e5_saveState_65, e5_saveState_66, h56, e45', ecl]
    simp only [e5_saveState_69, e5_saveState_72, e5_saveState_73, e5_saveState_74, e5_saveState_77, e5_saveState_78, e5_saveState_79, e5_saveState_82, hd, hcp', f_cm_1, m_set_i, m_cE_i, m_cE_v, m_cE_ite, m_kill, (by decide : nI 5 + 1 = 6)]
