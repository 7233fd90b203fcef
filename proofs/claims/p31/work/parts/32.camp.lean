/-! CAMP, its loops. -/
theorem m_cp_at (M : m_Mem) (a b c b2 c2 : Nat) (n a' b' c' k' : Nat) : m_cp M a b c b2 c2 n a' b' c' k' = if a' = a ∧ b' = b ∧ c' = c ∧ k' < n then M a b2 c2 k' else M a' b' c' k' := by
  by_cases h : a' = a ∧ b' = b ∧ c' = c
  · obtain ⟨rfl, rfl, rfl⟩ := h
    by_cases hk : k' < n
    · rw [if_pos ⟨rfl, rfl, rfl, hk⟩]
      exact m_cp_i n k' hk
    · rw [if_neg (fun q => hk q.2.2.2)]
      induction n with
      | zero => rfl
      | succ n ih =>
        show m_set (m_cp M a' b' c' b2 c2 n) a' b' c' n (M a' b2 c2 n) a' b' c' k' = _
        rw [m_set_n (fun q => hk (by omega))]
        exact ih (by omega)
  · rw [if_neg (fun q => h ⟨q.1, q.2.1, q.2.2.1⟩)]
    exact m_cp_o n a' b' c' k' h
/-- places c < N of a kind and a camp become those of another camp -/
def f_blk (M : m_Mem) (a b b2 N K : Nat) : m_Mem := fun a' b' c' k' => if a' = a ∧ b' = b ∧ c' < N ∧ k' < K then M a b2 c' k' else M a' b' c' k'
theorem f_blk_0 (M : m_Mem) (a b b2 K : Nat) : f_blk M a b b2 0 K = M := by
  funext a' b' c' k'
  unfold f_blk
  rw [if_neg (fun q => absurd q.2.2.1 (Nat.not_lt_zero _))]
theorem f_blk_s (M : m_Mem) (a b b2 n K : Nat) (hne : b ≠ b2) : m_cp (f_blk M a b b2 n K) a b n b2 n K = f_blk M a b b2 (n + 1) K := by
  funext a' b' c' k'
  rw [m_cp_at]
  unfold f_blk
  by_cases h : a' = a ∧ b' = b ∧ k' < K
  · obtain ⟨rfl, rfl, hk⟩ := h
    by_cases hc : c' = n
    · subst hc
      rw [if_pos ⟨rfl, rfl, rfl, hk⟩, if_neg (fun q => hne q.2.1.symm), if_pos ⟨rfl, rfl, by omega, hk⟩]
    · rw [if_neg (fun q => hc q.2.2.1)]
      by_cases hc2 : c' < n
      · rw [if_pos ⟨rfl, rfl, hc2, hk⟩, if_pos ⟨rfl, rfl, by omega, hk⟩]
      · rw [if_neg (fun q => hc2 q.2.2.1), if_neg (fun q => hc (by omega))]
  · rw [if_neg (fun q => h ⟨q.1, q.2.1, q.2.2.2⟩), if_neg (fun q => h ⟨q.1, q.2.1, q.2.2.2⟩), if_neg (fun q => h ⟨q.1, q.2.1, q.2.2.2⟩)]
def f_cm (M : m_Mem) (j j2 : Nat) : m_Mem :=
  let M3 := f_blk (f_blk (f_blk M 12 j j2 8 8) 13 j j2 10 6) 14 j j2 12 3
  let M5 := m_cpy (m_cp M3 14 j 12 j2 12 3) 11 j 0 j2 0
  m_set (m_set (m_set (m_set (m_set M5 7 j 0 5 (M 7 j2 0 5)) 7 j 0 6 (M 7 j2 0 6)) 7 j 0 7 (M 7 j2 0 7)) 7 j 0 8 (M 7 j2 0 8)) 7 j 0 9 (M 7 j2 0 9)
theorem s_copy1 (j j2 : Nat) (hj : j < 9) (hj2 : j2 < 9) (hne : j ≠ j2) (M : m_Mem) : ∀ (k n : Nat), n + k = 8 → m_E 1 2 [some (.ref (m_lc 7 j 0)), some (.ref (m_lc 7 j2 0)), some (.int (nI n))] [] (f_blk M 12 j j2 n 8) = m_E 1 29 [some (.ref (m_lc 7 j 0)), some (.ref (m_lc 7 j2 0)), some (.int (nI 8))] [] (f_blk M 12 j j2 8 8) := by
  have h7 := m_d7 hj
  have h8 := m_d8 hj
  have h72 := m_d7 hj2
  have h82 := m_d8 hj2
  intro k
  induction k with
  | zero =>
    intro n hn
    have e : n = 8 := by omega
    subst e
    simp only [e0_copyFrom_2, e0_copyFrom_3, e0_copyFrom_5, e0_copyFrom_8, e0_copyFrom_9, e0_copyFrom_12, e0_copyFrom_13, e0_copyFrom_14, e0_copyFrom_15, e0_copyFrom_18, e0_copyFrom_19, e0_copyFrom_20, e0_copyFrom_23, e0_copyFrom_26, (by decide : (8 : Int32) ≤ nI 8), if_true]
  | succ k ih =>
    intro n hn
    have hlt : n < 8 := by omega
    have h12 := m_d12 hj hlt
    have h122 := m_d12 hj2 hlt
    have hc : ¬ (8 : Int32) ≤ nI n := nI_ge hlt (by decide)
    rw [e0_copyFrom_2]
    simp only [e0_copyFrom_3, e0_copyFrom_5, e0_copyFrom_8, e0_copyFrom_9, e0_copyFrom_12, e0_copyFrom_13, e0_copyFrom_14, e0_copyFrom_15, e0_copyFrom_18, e0_copyFrom_19, e0_copyFrom_20, e0_copyFrom_23, e0_copyFrom_26, h7, h8, h72, h82, h12, h122, hlt, hc, if_false, s_dCopy j n j2 hj hlt hj2 _ hne, m_cE_i, m_cE_v, m_cE_ite, m_kill, nI_1, f_blk_s M 12 j j2 n 8 hne]
    exact ih (n + 1) (by omega)
theorem s_copy2 (j j2 : Nat) (hj : j < 9) (hj2 : j2 < 9) (hne : j ≠ j2) (M : m_Mem) (hB : ∀ c, c < 10 → m_nok 1 (M 13 j2 c 3) = true) : ∀ (k n : Nat), n + k = 10 → m_E 1 31 [some (.ref (m_lc 7 j 0)), some (.ref (m_lc 7 j2 0)), some (.int (nI n))] [] (f_blk M 13 j j2 n 6) = m_E 1 58 [some (.ref (m_lc 7 j 0)), some (.ref (m_lc 7 j2 0)), some (.int (nI 10))] [] (f_blk M 13 j j2 10 6) := by
  have h7 := m_d7 hj
  have h8 := m_d9 hj
  have h72 := m_d7 hj2
  have h82 := m_d9 hj2
  intro k
  induction k with
  | zero =>
    intro n hn
    have e : n = 10 := by omega
    subst e
    simp only [e0_copyFrom_31, e0_copyFrom_32, e0_copyFrom_34, e0_copyFrom_37, e0_copyFrom_38, e0_copyFrom_41, e0_copyFrom_42, e0_copyFrom_43, e0_copyFrom_44, e0_copyFrom_47, e0_copyFrom_48, e0_copyFrom_49, e0_copyFrom_52, e0_copyFrom_55, (by decide : (10 : Int32) ≤ nI 10), if_true]
  | succ k ih =>
    intro n hn
    have hlt : n < 10 := by omega
    have h12 := m_d13 hj hlt
    have h122 := m_d13 hj2 hlt
    have hc : ¬ (10 : Int32) ≤ nI n := nI_ge hlt (by decide)
    have hb : m_nok 1 (f_blk M 13 j j2 n 6 13 j2 n 3) = true := by
      unfold f_blk
      rw [if_neg (fun q => hne q.2.1.symm)]
      exact hB n hlt
    rw [e0_copyFrom_31]
    simp only [e0_copyFrom_32, e0_copyFrom_34, e0_copyFrom_37, e0_copyFrom_38, e0_copyFrom_41, e0_copyFrom_42, e0_copyFrom_43, e0_copyFrom_44, e0_copyFrom_47, e0_copyFrom_48, e0_copyFrom_49, e0_copyFrom_52, e0_copyFrom_55, h7, h8, h72, h82, h12, h122, hlt, hc, if_false, s_cCopy j n j2 hj hlt hj2 _ hne hb, m_cE_i, m_cE_v, m_cE_ite, m_kill, nI_1, f_blk_s M 13 j j2 n 6 hne]
    exact ih (n + 1) (by omega)
theorem s_copy3 (j j2 : Nat) (hj : j < 9) (hj2 : j2 < 9) (hne : j ≠ j2) (M : m_Mem) : ∀ (k n : Nat), n + k = 12 → m_E 1 60 [some (.ref (m_lc 7 j 0)), some (.ref (m_lc 7 j2 0)), some (.int (nI n))] [] (f_blk M 14 j j2 n 3) = m_E 1 87 [some (.ref (m_lc 7 j 0)), some (.ref (m_lc 7 j2 0)), some (.int (nI 12))] [] (f_blk M 14 j j2 12 3) := by
  have h7 := m_d7 hj
  have h8 := m_d10 hj
  have h72 := m_d7 hj2
  have h82 := m_d10 hj2
  intro k
  induction k with
  | zero =>
    intro n hn
    have e : n = 12 := by omega
    subst e
    simp only [e0_copyFrom_60, e0_copyFrom_61, e0_copyFrom_63, e0_copyFrom_66, e0_copyFrom_67, e0_copyFrom_70, e0_copyFrom_71, e0_copyFrom_72, e0_copyFrom_73, e0_copyFrom_76, e0_copyFrom_77, e0_copyFrom_78, e0_copyFrom_81, e0_copyFrom_84, (by decide : (12 : Int32) ≤ nI 12), if_true]
  | succ k ih =>
    intro n hn
    have hlt : n < 12 := by omega
    have h12 := m_d14 hj (show n < 13 by omega)
    have h122 := m_d14 hj2 (show n < 13 by omega)
    have hc : ¬ (12 : Int32) ≤ nI n := nI_ge hlt (by decide)
    rw [e0_copyFrom_60]
    simp only [e0_copyFrom_61, e0_copyFrom_63, e0_copyFrom_66, e0_copyFrom_67, e0_copyFrom_70, e0_copyFrom_71, e0_copyFrom_72, e0_copyFrom_73, e0_copyFrom_76, e0_copyFrom_77, e0_copyFrom_78, e0_copyFrom_81, e0_copyFrom_84, h7, h8, h72, h82, h12, h122, hlt, hc, if_false, s_gCopy j n j2 n hj (show n < 13 by omega) hj2 (show n < 13 by omega) _ (fun q => hne q.1.symm), m_cE_i, m_cE_v, m_cE_ite, m_kill, nI_1, f_blk_s M 14 j j2 n 3 hne]
    exact ih (n + 1) (by omega)
theorem m_cpy_at (M : m_Mem) (a b c b' c' a1 b1 c1 k : Nat) : m_cpy M a b c b' c' a1 b1 c1 k = if a1 = a ∧ b1 = b ∧ c1 = c ∧ k < 5 then M a b' c' k else M a1 b1 c1 k := by
  unfold m_cpy
  by_cases h : a1 = a ∧ b1 = b ∧ c1 = c
  · rw [if_pos h]
    obtain ⟨rfl, rfl, rfl⟩ := h
    by_cases hk : k < 5
    · rw [if_pos ⟨rfl, rfl, rfl, hk⟩]
      unfold va_cpy
      rw [if_pos ⟨Nat.zero_le _, by omega⟩]
      congr 1
      omega
    · rw [if_neg (fun q => hk q.2.2.2)]
      unfold va_cpy
      rw [if_neg (fun q => hk (by omega))]
  · rw [if_neg h, if_neg (fun q => h ⟨q.1, q.2.1, q.2.2.1⟩)]
theorem s_copy (j j2 : Nat) (hj : j < 9) (hj2 : j2 < 9) (hne : j ≠ j2) (M : m_Mem) (hB : ∀ c, c < 10 → m_nok 1 (M 13 j2 c 3) = true) : m_cl 1 [.ref (m_lc 7 j 0), .ref (m_lc 7 j2 0)] M = some (.inl none, f_cm M j j2) := by
  have h7 := m_d7 hj
  have h72 := m_d7 hj2
  have h11 := m_d11 hj
  have h112 := m_d11 hj2
  have h14 := m_d14 hj (by decide : 12 < 13)
  have h142 := m_d14 hj2 (by decide : 12 < 13)
  have l1 := s_copy1 j j2 hj hj2 hne M 8 0 rfl
  have l2 := s_copy2 j j2 hj hj2 hne (f_blk M 12 j j2 8 8) (fun c hc => by
    unfold f_blk
    rw [if_neg (fun q => absurd q.1 (by decide))]
    exact hB c hc) 10 0 rfl
  have l3 := s_copy3 j j2 hj hj2 hne (f_blk (f_blk M 12 j j2 8 8) 13 j j2 10 6) 12 0 rfl
  rw [f_blk_0] at l1 l2 l3
  rw [e0_copyFrom_en, e0_copyFrom_0]
  simp only [e0_copyFrom_1, m_kill]
  rw [show (0 : Int32) = nI 0 from rfl, l1, e0_copyFrom_29]
  simp only [e0_copyFrom_30, m_kill]
  rw [show (0 : Int32) = nI 0 from rfl, l2, e0_copyFrom_58]
  simp only [e0_copyFrom_59, m_kill]
  rw [show (0 : Int32) = nI 0 from rfl, l3]
  have e7 : ∀ (M' : m_Mem) (k k' : Nat) (v : Int32), m_set M' 7 j 0 k v 7 j2 0 k' = M' 7 j2 0 k' := fun _ _ _ _ => m_set_n (fun q => hne q.2.1.symm)
  have e9 : ∀ k, m_cpy (m_cp (f_blk (f_blk (f_blk M 12 j j2 8 8) 13 j j2 10 6) 14 j j2 12 3) 14 j 12 j2 12 3) 11 j 0 j2 0 7 j2 0 k = M 7 j2 0 k := by
    intro k
    rw [m_cpy_at, if_neg (fun q => absurd q.1 (by decide)), m_cp_at, if_neg (fun q => absurd q.1 (by decide))]
    unfold f_blk
    rw [if_neg (fun q => absurd q.1 (by decide)), if_neg (fun q => absurd q.1 (by decide)), if_neg (fun q => absurd q.1 (by decide))]
  simp only [e0_copyFrom_87, e0_copyFrom_88, e0_copyFrom_91, e0_copyFrom_92, e0_copyFrom_95, e0_copyFrom_98, e0_copyFrom_99, e0_copyFrom_102, e0_copyFrom_103, e0_copyFrom_104, e0_copyFrom_107, e0_copyFrom_108, e0_copyFrom_109, e0_copyFrom_112, e0_copyFrom_113, e0_copyFrom_114, e0_copyFrom_117, e0_copyFrom_120, e0_copyFrom_121, e0_copyFrom_122, e0_copyFrom_125, e0_copyFrom_128, e0_copyFrom_129, e0_copyFrom_130, e0_copyFrom_133, e0_copyFrom_136, e0_copyFrom_137, e0_copyFrom_138, e0_copyFrom_141, e0_copyFrom_144, e0_copyFrom_145, e0_copyFrom_146, e0_copyFrom_149, e0_copyFrom_152, h7, h72, h11, h112, h14, h142, s_gCopy j 12 j2 12 hj (by decide) hj2 (by decide) _ (fun q => hne q.1.symm), m_cE_i, m_cE_v, m_cE_ite, m_kill, e7, e9]
  rfl
/-- sums over the first n diggers, bars -/
def f_tot (M : m_Mem) (j k : Nat) : Nat → Int32
  | 0 => 0
  | n + 1 => f_tot M j k n + M 12 j n k
theorem s_tot_l (j : Nat) (hj : j < 9) (k : Nat) (hk : k < 8) (N : Nat) (hN : N ≤ 8) (M : m_Mem) (hc : M 7 j 0 5 = nI N) : ∀ (i n : Nat), n + i = N → m_E 26 4 [some (.ref (m_lc 7 j 0)), some (.int (nI k)), some (.int (f_tot M j k n)), some (.int (nI n))] [] M = some (.inl (some (.int (f_tot M j k N))), M) := by
  have h7 := m_d7 hj
  have h8 := m_d8 hj
  intro i
  induction i with
  | zero =>
    intro n hn
    have e : n = N := by omega
    subst e
    have hle : nI n ≤ nI n := nI_le (Nat.le_refl _) (by omega)
    simp only [e0_total_0, e0_total_1, e0_total_2, e0_total_3, e0_total_4, e0_total_5, e0_total_6, e0_total_9, e0_total_12, e0_total_13, e0_total_14, e0_total_17, e0_total_18, e0_total_19, e0_total_20, e0_total_23, e0_total_24, e0_total_25, e0_total_28, e0_total_31, e0_total_32, h7, hc, hle, if_true]
  | succ i ih =>
    intro n hn
    have hlt : n < 8 := by omega
    have h12 := m_d12 hj hlt
    have hle : ¬ nI N ≤ nI n := nI_ge (by omega) (by omega)
    have ih2 := ih (n + 1) (by omega)
    rw [e0_total_4]
    simp only [e0_total_5, e0_total_6, e0_total_9, e0_total_12, e0_total_13, e0_total_14, e0_total_17, e0_total_18, e0_total_19, e0_total_20, e0_total_23, e0_total_24, e0_total_25, e0_total_28, e0_total_31, e0_total_32, h7, h8, h12, hc, hlt, hle, if_false, s_dProp j n hj hlt k hk, m_cE_i, m_cE_v, m_cE_ite, m_kill, nI_1]
    exact ih2
theorem s_tot (j : Nat) (hj : j < 9) (k : Nat) (hk : k < 8) (N : Nat) (hN : N ≤ 8) (M : m_Mem) (hc : M 7 j 0 5 = nI N) : m_cl 26 [.ref (m_lc 7 j 0), .int (nI k)] M = some (.inl (some (.int (f_tot M j k N))), M) := by
  rw [e0_total_en]
  simp only [e0_total_0, e0_total_1, e0_total_2, e0_total_3, m_kill]
  exact s_tot_l j hj k hk N hN M hc N 0 (by omega)
def f_fib (M : m_Mem) (j : Nat) : Nat → Int32
  | 0 => M 14 j 12 1
  | n + 1 => f_fib M j n + M 14 j n 1
theorem s_fib_l (j : Nat) (hj : j < 9) (N : Nat) (hN : N ≤ 12) (M : m_Mem) (hc : M 7 j 0 6 = nI N) : ∀ (i n : Nat), n + i = N → m_E 27 10 [some (.ref (m_lc 7 j 0)), some (.int (f_fib M j n)), some (.int (nI n))] [] M = some (.inl (some (.int (f_fib M j N))), M) := by
  have h7 := m_d7 hj
  have h10 := m_d10 hj
  intro i
  induction i with
  | zero =>
    intro n hn
    have e : n = N := by omega
    subst e
    have hle : nI n ≤ nI n := nI_le (Nat.le_refl _) (by omega)
    simp only [e0_fineInLotAndBars_10, e0_fineInLotAndBars_11, e0_fineInLotAndBars_12, e0_fineInLotAndBars_15, e0_fineInLotAndBars_18, e0_fineInLotAndBars_19, e0_fineInLotAndBars_20, e0_fineInLotAndBars_23, e0_fineInLotAndBars_24, e0_fineInLotAndBars_25, e0_fineInLotAndBars_28, e0_fineInLotAndBars_29, e0_fineInLotAndBars_30, e0_fineInLotAndBars_33, e0_fineInLotAndBars_36, e0_fineInLotAndBars_37, h7, hc, hle, if_true]
  | succ i ih =>
    intro n hn
    have hlt : n < 12 := by omega
    have h14 := m_d14 hj (show n < 13 by omega)
    have hle : ¬ nI N ≤ nI n := nI_ge (by omega) (by omega)
    have ih2 := ih (n + 1) (by omega)
    rw [e0_fineInLotAndBars_10]
    simp only [e0_fineInLotAndBars_11, e0_fineInLotAndBars_12, e0_fineInLotAndBars_15, e0_fineInLotAndBars_18, e0_fineInLotAndBars_19, e0_fineInLotAndBars_20, e0_fineInLotAndBars_23, e0_fineInLotAndBars_24, e0_fineInLotAndBars_25, e0_fineInLotAndBars_28, e0_fineInLotAndBars_29, e0_fineInLotAndBars_30, e0_fineInLotAndBars_33, e0_fineInLotAndBars_36, e0_fineInLotAndBars_37, h7, h10, h14, hc, hlt, hle, if_false, m_cE_i, m_cE_v, m_cE_ite, m_kill, nI_1]
    exact ih2
theorem s_fib (j : Nat) (hj : j < 9) (N : Nat) (hN : N ≤ 12) (M : m_Mem) (hc : M 7 j 0 6 = nI N) : m_cl 27 [.ref (m_lc 7 j 0)] M = some (.inl (some (.int (f_fib M j N))), M) := by
  have h7 := m_d7 hj
  have h14 := m_d14 hj (by decide : 12 < 13)
  rw [e0_fineInLotAndBars_en]
  simp only [e0_fineInLotAndBars_0, e0_fineInLotAndBars_1, e0_fineInLotAndBars_4, e0_fineInLotAndBars_7, e0_fineInLotAndBars_8, e0_fineInLotAndBars_9, h7, h14, m_kill]
  exact s_fib_l j hj N hN M hc N 0 (by omega)
