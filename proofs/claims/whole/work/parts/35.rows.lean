/-! CAMP, the hash of its rows. -/
theorem f_h_add (h : Int64) (xs : Nat → Int32) (a : Nat) : ∀ b, f_h (f_h h xs a) (fun i => xs (a + i)) b = f_h h xs (a + b)
  | 0 => rfl
  | b + 1 => by
    show 31 * f_h (f_h h xs a) (fun i => xs (a + i)) b + (xs (a + b)).toInt64 = _
    rw [f_h_add h xs a b]
    rfl
theorem f_h_cg (h : Int64) {xs ys : Nat → Int32} : ∀ n, (∀ i, i < n → xs i = ys i) → f_h h xs n = f_h h ys n
  | 0, _ => rfl
  | n + 1, e => by
    show 31 * f_h h xs n + (xs n).toInt64 = 31 * f_h h ys n + (ys n).toInt64
    rw [f_h_cg h n (fun i hi => e i (by omega)), e n (by omega)]
/-- rows of K numbers -/
def f_row (f : Nat → Nat → Int32) (K : Nat) : Nat → Int32 := fun i => f (i / K) (i % K)
theorem f_row_s (h : Int64) (f : Nat → Nat → Int32) (K n : Nat) (hK : 0 < K) : f_h (f_h h (f_row f K) (K * n)) (f n) K = f_h h (f_row f K) (K * (n + 1)) := by
  rw [show K * (n + 1) = K * n + K from rfl, ← f_h_add]
  refine f_h_cg _ K (fun i hi => ?_)
  unfold f_row
  rw [Nat.mul_add_div hK, Nat.div_eq_of_lt hi, Nat.mul_add_mod, Nat.mod_eq_of_lt hi, Nat.add_zero]
def f_dp (M : m_Mem) (j d k : Nat) : Int32 := if k = 8 then (if 0 < f_loss M j d then 1 else 0) else M 12 j d k
theorem s_hr1i (j : Nat) (hj : j < 9) (M : m_Mem) (h g : Int64) (d : Nat) (hd : d < 8) : ∀ (i n : Nat), n + i = 9 → m_E 35 17 [some (.ref (m_lc 7 j 0)), some (.long h), none, some (.long (f_h g (f_dp M j d) n)), none, some (.int (nI d)), some (.int (nI n))] [] M = m_E 35 5 [some (.ref (m_lc 7 j 0)), some (.long h), none, some (.long (f_h g (f_dp M j d) 9)), none, some (.int (nI (d + 1))), some (.int (nI 9))] [] M := by
  have h7 := m_d7 hj
  intro i
  induction i with
  | zero =>
    intro n hn
    have e : n = 9 := by omega
    subst e
    simp only [e0_hashRows_17, e0_hashRows_19, e0_hashRows_21, e0_hashRows_24, e0_hashRows_27, e0_hashRows_28, e0_hashRows_29, e0_hashRows_30, e0_hashRows_32, e0_hashRows_34, e0_hashRows_37, e0_hashRows_38, e0_hashRows_39, e0_hashRows_40, e0_hashRows_43, e0_hashRows_46, e0_hashRows_49, (by decide : (9 : Int32) ≤ nI 9), if_true, m_kill, nI_1]
  | succ i ih =>
    intro n hn
    have hlt : n < 9 := by omega
    have hle : ¬ (9 : Int32) ≤ nI n := nI_ge hlt (by decide)
    have ih2 := ih (n + 1) (by omega)
    have hp : m_cl 24 [.ref (m_lc 7 j 0), .int (nI d), .int (nI n)] M = some (.inl (some (.int (f_dp M j d n))), M) := s_dProp8 j hj d hd n hlt M
    rw [e0_hashRows_17]
    simp only [e0_hashRows_19, e0_hashRows_21, e0_hashRows_24, e0_hashRows_27, e0_hashRows_28, e0_hashRows_29, e0_hashRows_30, e0_hashRows_32, e0_hashRows_34, e0_hashRows_37, e0_hashRows_38, e0_hashRows_39, e0_hashRows_40, e0_hashRows_43, h7, hle, hp, if_false, m_cE_i, m_cE_v, m_cE_ite, m_kill, nI_1]
    exact ih2
theorem s_hr1 (j : Nat) (hj : j < 9) (M : m_Mem) (h g : Int64) (N : Nat) (hN : N ≤ 8) (hc : M 7 j 0 5 = nI N) (w : Option Value) : ∀ (i n : Nat) (z : Option Value), n + i = N → ∃ z', m_E 35 5 [some (.ref (m_lc 7 j 0)), some (.long h), none, some (.long (f_h g (f_row (f_dp M j) 9) (9 * n))), none, some (.int (nI n)), z] [] M = m_E 35 52 [some (.ref (m_lc 7 j 0)), some (.long h), none, some (.long (f_h g (f_row (f_dp M j) 9) (9 * N))), none, some (.int (nI N)), z'] [] M := by
  have h7 := m_d7 hj
  intro i
  induction i with
  | zero =>
    intro n z hn
    have e : n = N := by omega
    subst e
    have hle : nI n ≤ nI n := nI_le (Nat.le_refl _) (by omega)
    exact ⟨z, by simp only [e0_hashRows_5, e0_hashRows_7, e0_hashRows_8, e0_hashRows_11, h7, hc, hle, if_true]⟩
  | succ i ih =>
    intro n z hn
    have hlt : n < 8 := by omega
    have hle : ¬ nI N ≤ nI n := nI_ge (by omega) (by omega)
    obtain ⟨z', ih2⟩ := ih (n + 1) (some (.int (nI 9))) (by omega)
    refine ⟨z', ?_⟩
    rw [← ih2, ← f_row_s g (f_dp M j) 9 n (by decide)]
    have L := s_hr1i j hj M h (f_h g (f_row (f_dp M j) 9) (9 * n)) n hlt 9 0 rfl
    rw [e0_hashRows_5]
    simp only [e0_hashRows_7, e0_hashRows_8, e0_hashRows_11, e0_hashRows_14, e0_hashRows_15, h7, hc, hle, if_false, m_kill]
    exact L
def f_cpp (M : m_Mem) (j c k : Nat) : Int32 := M 13 j c (f_cp k)
theorem s_hr2i (j : Nat) (hj : j < 9) (M : m_Mem) (h g : Int64) (d : Nat) (hd : d < 10) : ∀ (i n : Nat), n + i = 5 → m_E 35 65 [some (.ref (m_lc 7 j 0)), some (.long h), none, some (.long (f_h g (f_cpp M j d) n)), none, some (.int (nI d)), some (.int (nI n))] [] M = m_E 35 55 [some (.ref (m_lc 7 j 0)), some (.long h), none, some (.long (f_h g (f_cpp M j d) 5)), none, some (.int (nI (d + 1))), some (.int (nI 5))] [] M := by
  have h7 := m_d7 hj
  have h9 := m_d9 hj
  have h13 := m_d13 hj hd
  intro i
  induction i with
  | zero =>
    intro n hn
    have e : n = 5 := by omega
    subst e
    simp only [e0_hashRows_65, e0_hashRows_67, e0_hashRows_68, e0_hashRows_71, e0_hashRows_74, e0_hashRows_75, e0_hashRows_76, e0_hashRows_77, e0_hashRows_80, e0_hashRows_82, e0_hashRows_83, e0_hashRows_85, e0_hashRows_88, e0_hashRows_89, e0_hashRows_90, e0_hashRows_91, e0_hashRows_94, e0_hashRows_97, e0_hashRows_100, (by decide : (5 : Int32) ≤ nI 5), if_true, m_kill, nI_1]
  | succ i ih =>
    intro n hn
    have hlt : n < 5 := by omega
    have hle : ¬ (5 : Int32) ≤ nI n := nI_ge hlt (by decide)
    have ih2 := ih (n + 1) (by omega)
    have hp : m_cl 40 [.ref (m_lc 13 j d), .int (nI n)] M = some (.inl (some (.int (f_cpp M j d n))), M) := s_cProp j d hj hd n hlt M
    rw [e0_hashRows_65]
    simp only [e0_hashRows_67, e0_hashRows_68, e0_hashRows_71, e0_hashRows_74, e0_hashRows_75, e0_hashRows_76, e0_hashRows_77, e0_hashRows_80, e0_hashRows_82, e0_hashRows_83, e0_hashRows_85, e0_hashRows_88, e0_hashRows_89, e0_hashRows_90, e0_hashRows_91, e0_hashRows_94, h7, h9, h13, hd, hle, hp, if_false, m_cE_i, m_cE_v, m_cE_ite, m_kill, nI_1]
    exact ih2
theorem s_hr2 (j : Nat) (hj : j < 9) (M : m_Mem) (h g : Int64) : ∀ (i n : Nat) (z : Option Value), n + i = 10 → ∃ z', m_E 35 55 [some (.ref (m_lc 7 j 0)), some (.long h), none, some (.long (f_h g (f_row (f_cpp M j) 5) (5 * n))), none, some (.int (nI n)), z] [] M = m_E 35 103 [some (.ref (m_lc 7 j 0)), some (.long h), none, some (.long (f_h g (f_row (f_cpp M j) 5) (5 * 10))), none, some (.int (nI 10)), z'] [] M := by
  have h7 := m_d7 hj
  intro i
  induction i with
  | zero =>
    intro n z hn
    have e : n = 10 := by omega
    subst e
    exact ⟨z, by simp only [e0_hashRows_55, e0_hashRows_57, e0_hashRows_59, (by decide : (10 : Int32) ≤ nI 10), if_true]⟩
  | succ i ih =>
    intro n z hn
    have hlt : n < 10 := by omega
    have hle : ¬ (10 : Int32) ≤ nI n := nI_ge (by omega) (by decide)
    obtain ⟨z', ih2⟩ := ih (n + 1) (some (.int (nI 5))) (by omega)
    refine ⟨z', ?_⟩
    rw [← ih2, ← f_row_s g (f_cpp M j) 5 n (by decide)]
    have L := s_hr2i j hj M h (f_h g (f_row (f_cpp M j) 5) (5 * n)) n hlt 5 0 rfl
    rw [e0_hashRows_55]
    simp only [e0_hashRows_57, e0_hashRows_59, e0_hashRows_62, e0_hashRows_63, hle, if_false, m_kill]
    exact L
theorem s_hr3i (j : Nat) (hj : j < 9) (M : m_Mem) (h g : Int64) (d : Nat) (hd : d < 12) : ∀ (i n : Nat), n + i = 5 → m_E 35 118 [some (.ref (m_lc 7 j 0)), some (.long h), none, some (.long (f_h g (f_bp M j d) n)), none, some (.int (nI d)), some (.int (nI n))] [] M = m_E 35 106 [some (.ref (m_lc 7 j 0)), some (.long h), none, some (.long (f_h g (f_bp M j d) 5)), none, some (.int (nI (d + 1))), some (.int (nI 5))] [] M := by
  have h7 := m_d7 hj
  intro i
  induction i with
  | zero =>
    intro n hn
    have e : n = 5 := by omega
    subst e
    simp only [e0_hashRows_118, e0_hashRows_120, e0_hashRows_121, e0_hashRows_124, e0_hashRows_127, e0_hashRows_128, e0_hashRows_129, e0_hashRows_130, e0_hashRows_132, e0_hashRows_134, e0_hashRows_137, e0_hashRows_138, e0_hashRows_139, e0_hashRows_140, e0_hashRows_143, e0_hashRows_146, e0_hashRows_149, (by decide : (5 : Int32) ≤ nI 5), if_true, m_kill, nI_1]
  | succ i ih =>
    intro n hn
    have hlt : n < 5 := by omega
    have hle : ¬ (5 : Int32) ≤ nI n := nI_ge hlt (by decide)
    have ih2 := ih (n + 1) (by omega)
    rw [e0_hashRows_118]
    simp only [e0_hashRows_120, e0_hashRows_121, e0_hashRows_124, e0_hashRows_127, e0_hashRows_128, e0_hashRows_129, e0_hashRows_130, e0_hashRows_132, e0_hashRows_134, e0_hashRows_137, e0_hashRows_138, e0_hashRows_139, e0_hashRows_140, e0_hashRows_143, h7, hle, s_bProp j hj d hd n hlt, if_false, m_cE_i, m_cE_v, m_cE_ite, m_kill, nI_1]
    exact ih2
theorem s_hr3 (j : Nat) (hj : j < 9) (M : m_Mem) (h g : Int64) (N : Nat) (hN : N ≤ 12) (hc : M 7 j 0 6 = nI N) : ∀ (i n : Nat) (z : Option Value), n + i = N → m_E 35 106 [some (.ref (m_lc 7 j 0)), some (.long h), none, some (.long (f_h g (f_row (f_bp M j) 5) (5 * n))), none, some (.int (nI n)), z] [] M = some (.inl (some (.long (f_h g (f_row (f_bp M j) 5) (5 * N)))), M) := by
  have h7 := m_d7 hj
  intro i
  induction i with
  | zero =>
    intro n z hn
    have e : n = N := by omega
    subst e
    have hle : nI n ≤ nI n := nI_le (Nat.le_refl _) (by omega)
    simp only [e0_hashRows_106, e0_hashRows_108, e0_hashRows_109, e0_hashRows_112, e0_hashRows_115, e0_hashRows_116, e0_hashRows_118, e0_hashRows_120, e0_hashRows_121, e0_hashRows_124, e0_hashRows_127, e0_hashRows_128, e0_hashRows_129, e0_hashRows_130, e0_hashRows_132, e0_hashRows_134, e0_hashRows_137, e0_hashRows_138, e0_hashRows_139, e0_hashRows_140, e0_hashRows_143, e0_hashRows_146, e0_hashRows_149, e0_hashRows_152, e0_hashRows_153, h7, hc, hle, if_true]
  | succ i ih =>
    intro n z hn
    have hlt : n < 12 := by omega
    have hle : ¬ nI N ≤ nI n := nI_ge (by omega) (by omega)
    have ih2 := ih (n + 1) (some (.int (nI 5))) (by omega)
    rw [← ih2, ← f_row_s g (f_bp M j) 5 n (by decide)]
    have L := s_hr3i j hj M h (f_h g (f_row (f_bp M j) 5) (5 * n)) n hlt 5 0 rfl
    rw [e0_hashRows_106]
    simp only [e0_hashRows_108, e0_hashRows_109, e0_hashRows_112, e0_hashRows_115, e0_hashRows_116, h7, hc, hle, if_false, m_kill]
    exact L
def f_hr (M : m_Mem) (j N B : Nat) (h : Int64) : Int64 := f_h (f_h (f_h h (f_row (f_dp M j) 9) (9 * N)) (f_row (f_cpp M j) 5) 50) (f_row (f_bp M j) 5) (5 * B)
theorem s_hr (j : Nat) (hj : j < 9) (M : m_Mem) (h : Int64) (N B : Nat) (hN : N ≤ 8) (hB : B ≤ 12) (hc : M 7 j 0 5 = nI N) (hb : M 7 j 0 6 = nI B) : m_cl 35 [.ref (m_lc 7 j 0), .long h] M = some (.inl (some (.long (f_hr M j N B h))), M) := by
  rw [e0_hashRows_en]
  simp only [e0_hashRows_0, e0_hashRows_1, e0_hashRows_2, e0_hashRows_3, m_kill]
  obtain ⟨z1, L1⟩ := s_hr1 j hj M h h N hN hc none N 0 none (by omega)
  rw [show (0 : Int32) = nI 0 from rfl]
  refine Eq.trans L1 ?_
  simp only [e0_hashRows_52, e0_hashRows_53, m_kill]
  obtain ⟨z2, L2⟩ := s_hr2 j hj M h (f_h h (f_row (f_dp M j) 9) (9 * N)) 10 0 z1 rfl
  rw [show (0 : Int32) = nI 0 from rfl]
  refine Eq.trans L2 ?_
  simp only [e0_hashRows_103, e0_hashRows_104, m_kill]
  exact s_hr3 j hj M h (f_h (f_h h (f_row (f_dp M j) 9) (9 * N)) (f_row (f_cpp M j) 5) (5 * 10)) B hB hb B 0 z2 (by omega)
