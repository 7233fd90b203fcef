/-! FINESCRIP's digest. -/
def f_ct (M : m_Mem) (n N B k : Nat) : Int32 := if k = 16 then nI n else f_num M 0 N B k
def f_kt (x : Int32) : Int32 := if x = 0 then 0 else 1
section DIG3
variable {M : m_Mem} {n N B : Nat}
theorem a_d1 (hI : f_I M n N B) : ∀ (i k : Nat), k + i = 17 → m_E 90 6 [some (.ref (m_lc 1 0 0)), some (.long (f_h 3119 (f_ct M n N B) k)), none, some (.int (nI k))] [] M = m_E 90 31 [some (.ref (m_lc 1 0 0)), some (.long (f_h 3119 (f_ct M n N B) 17)), none, some (.int (nI 17))] [] M := by
  intro i
  induction i with
  | zero =>
    intro k hk
    have e : k = 17 := by omega
    subst e
    simp only [e5_digest_6, e5_digest_7, e5_digest_9, e5_digest_12, e5_digest_15, e5_digest_16, e5_digest_17, e5_digest_18, e5_digest_19, e5_digest_22, e5_digest_23, e5_digest_24, e5_digest_25, e5_digest_28, (by decide : (17 : Int32) ≤ nI 17), if_true]
  | succ i ih =>
    intro k hk
    have hle : ¬ (17 : Int32) ≤ nI k := nI_ge (b := 17) (by omega) (by decide)
    have ih2 := ih (k + 1) (by omega)
    have hb : f_bw (nI k) 0 16 = 1 := f_bw1 ⟨nI_pos' (by omega), (nI_le (by omega) (by decide) : nI k ≤ nI 16)⟩
    have hc := a_count hI (nI k)
    rw [hb, if_neg (by decide), nI_clamp (by omega)] at hc
    have hc2 : m_cl 83 [.ref (m_lc 1 0 0), .int (nI k)] M = some (.inl (some (.int (f_ct M n N B k))), M) := hc
    rw [e5_digest_6]
    simp only [e5_digest_7, e5_digest_9, e5_digest_12, e5_digest_15, e5_digest_16, e5_digest_17, e5_digest_18, e5_digest_19, e5_digest_22, e5_digest_23, e5_digest_24, e5_digest_25, e5_digest_28, hle, hc2, m_kill, m_cE_i, m_cE_v, m_cE_ite, m_kill, if_false, nI_1]
    exact ih2
theorem a_d2 (h : Int64) : ∀ (i k : Nat), k + i = 3 → m_E 90 51 [some (.ref (m_lc 1 0 0)), some (.long (f_h h (f_iw M 777) k)), none, some (.int (nI k))] [] M = m_E 90 78 [some (.ref (m_lc 1 0 0)), some (.long (f_h h (f_iw M 777) 3)), none, some (.int (nI 3))] [] M := by
  intro i
  induction i with
  | zero =>
    intro k hk
    have e : k = 3 := by omega
    subst e
    simp only [e5_digest_51, e5_digest_52, e5_digest_53, e5_digest_56, e5_digest_59, e5_digest_60, e5_digest_61, e5_digest_62, e5_digest_65, e5_digest_66, e5_digest_69, e5_digest_70, e5_digest_71, e5_digest_72, e5_digest_75, (by decide : (2 : Int32) < nI 3), if_true]
  | succ i ih =>
    intro k hk
    have hle : ¬ (2 : Int32) < nI k := Int32.not_lt.mpr (nI_le (b := 2) (by omega) (by decide))
    have ih2 := ih (k + 1) (by omega)
    have hb : f_bw (nI k) 0 2 = 1 := f_bw1 ⟨nI_pos' (by omega), (nI_le (by omega) (by decide) : nI k ≤ nI 2)⟩
    have hc := a_ifWeighed (M := M) 777 (nI k)
    rw [hb, if_neg (by decide), if_neg (by decide), nI_clamp (by omega)] at hc
    rw [e5_digest_51]
    simp only [e5_digest_52, e5_digest_53, e5_digest_56, e5_digest_59, e5_digest_60, e5_digest_61, e5_digest_62, e5_digest_65, e5_digest_66, e5_digest_69, e5_digest_70, e5_digest_71, e5_digest_72, e5_digest_75, hle, hc, m_kill, m_cE_i, m_cE_v, m_cE_ite, m_kill, if_false, nI_1]
    exact ih2
theorem a_d3 (h : Int64) : ∀ (i k : Nat), k + i = 2 → m_E 90 132 [some (.ref (m_lc 1 0 0)), some (.long (f_h h (fun t => f_kt (M 3 0 0 t)) k)), none, some (.int (nI k))] [] M = m_E 90 165 [some (.ref (m_lc 1 0 0)), some (.long (f_h h (fun t => f_kt (M 3 0 0 t)) 2)), none, some (.int (nI 2))] [] M := by
  intro i
  induction i with
  | zero =>
    intro k hk
    have e : k = 2 := by omega
    subst e
    simp only [e5_digest_132, e5_digest_133, e5_digest_134, e5_digest_137, e5_digest_140, e5_digest_141, e5_digest_142, e5_digest_143, e5_digest_146, e5_digest_147, e5_digest_148, e5_digest_151, e5_digest_152, e5_digest_155, e5_digest_156, e5_digest_157, e5_digest_158, e5_digest_159, e5_digest_162, (by decide : (2 : Int32) ≤ nI 2), if_true]
  | succ i ih =>
    intro k hk
    have hlt : k < 2 := by omega
    have hle : ¬ (2 : Int32) ≤ nI k := nI_ge (b := 2) hlt (by decide)
    have ih2 := ih (k + 1) (by omega)
    have es : f_h h (fun t => f_kt (M 3 0 0 t)) (k + 1) = 31 * f_h h (fun t => f_kt (M 3 0 0 t)) k + (f_kt (M 3 0 0 k)).toInt64 := rfl
    rw [es] at ih2
    rw [e5_digest_132]
    by_cases q : M 3 0 0 k = 0
    · rw [show f_kt (M 3 0 0 k) = 0 from if_pos q] at ih2
      simp only [e5_digest_133, e5_digest_134, e5_digest_137, e5_digest_140, e5_digest_141, e5_digest_142, e5_digest_143, e5_digest_146, e5_digest_147, e5_digest_148, e5_digest_151, e5_digest_152, e5_digest_155, e5_digest_156, e5_digest_157, e5_digest_158, e5_digest_159, e5_digest_162, hle, hlt, q, m_kill, m_cE_i, m_cE_v, m_cE_ite, m_kill, nI_1, if_true, if_false, not_false_eq_true]
      exact ih2
    · rw [show f_kt (M 3 0 0 k) = 1 from if_neg q] at ih2
      simp only [e5_digest_133, e5_digest_134, e5_digest_137, e5_digest_140, e5_digest_141, e5_digest_142, e5_digest_143, e5_digest_146, e5_digest_147, e5_digest_148, e5_digest_151, e5_digest_152, e5_digest_155, e5_digest_156, e5_digest_157, e5_digest_158, e5_digest_159, e5_digest_162, hle, hlt, q, m_kill, m_cE_i, m_cE_v, m_cE_ite, m_kill, nI_1, if_true, if_false, not_false_eq_true]
      exact ih2
def f_h5 (M : m_Mem) (n N B : Nat) : Int64 := f_h (f_hr M 0 N B (f_h (f_h 3119 (f_ct M n N B) 17) (M 11 0 0) 5)) (f_iw M 777) 3
def f_hd (M : m_Mem) (n N B L : Nat) (y : Int64) : Int64 :=
  f_h (31 * (f_h (31 * (31 * (31 * (31 * f_h5 M n N B + (f_gf M 100).toInt64) + ((f_wo M 0 N).1).toInt64) + (f_sf M 0).toInt64) + y) (fun t => f_kt (M 3 0 0 t)) 2) + (nI L).toInt64) (M 6 0 0) L
theorem a_digest (hI : f_I M n N B) (L : Nat) (hL : L ≤ 60) (hl : M 5 0 0 1 = nI L) (hC : ∀ i, i < 60 → m_nok 2 (M 6 0 0 i) = true)
    (hn : 0 < f_tot M 0 3 N → FP.ddiv (FP.i2d (f_tot M 0 4 N)) (FP.i2d (f_tot M 0 3 N)) &&& 0x7fffffffffffffff ≤ 0x7ff0000000000000) (y : Int64) (hy : m_cl 103 [.double (f_sh M 0 N)] M = some (.inl (some (.long y)), M)) :
    m_cl 90 [.ref (m_lc 1 0 0)] M = some (.inl (some (.long (f_hd M n N B L y))), M) := by
  have z : (0 : Int32) = nI 0 := rfl
  have hg := a_grainsFor (M := M) 100
  rw [show f_bw 100 1 9999 = 1 from by decide, if_neg (by decide)] at hg
  have hs : m_cl 34 [.ref (m_lc 7 0 0), .long (f_h 3119 (f_ct M n N B) 17)] M = some (.inl (some (.long (f_h (f_h 3119 (f_ct M n N B) 17) (M 11 0 0) 5))), M) := s_hs 0 (by decide) M _
  rw [e5_digest_en]
  simp only [e5_digest_0, e5_digest_3, e5_digest_4, e5_digest_5, m_kill]
  unfold f_hd f_h5
  rw [z]
  refine Eq.trans (a_d1 hI 17 0 rfl) ?_
  generalize f_h 3119 (f_ct M n N B) 17 = h0 at hs ⊢
  have hr := s_hr 0 (by decide) M (f_h h0 (M 11 0 0) 5) N B hI.2.1.1 hI.2.2.1.1 hI.2.1.2 hI.2.2.1.2
  simp only [e5_digest_31, e5_digest_32, e5_digest_35, e5_digest_36, e5_digest_39, e5_digest_40, e5_digest_41, e5_digest_44, e5_digest_45, e5_digest_48, e5_digest_49, e5_digest_50, m_k7, hs, hr, m_kill, m_cE_i, m_cE_v, m_cE_ite, m_kill]
  generalize f_hr M 0 N B (f_h h0 (M 11 0 0) 5) = h1
  rw [z]
  refine Eq.trans (a_d2 h1 3 0 rfl) ?_
  generalize f_h h1 (f_iw M 777) 3 = h2
  simp only [e5_digest_78, e5_digest_81, e5_digest_82, e5_digest_83, e5_digest_84, e5_digest_86, e5_digest_89, e5_digest_90, e5_digest_91, e5_digest_92, e5_digest_95, e5_digest_96, e5_digest_97, e5_digest_98, e5_digest_101, e5_digest_102, e5_digest_103, e5_digest_104, e5_digest_107, e5_digest_108, e5_digest_109, e5_digest_110, e5_digest_113, e5_digest_114, e5_digest_115, e5_digest_116, e5_digest_119, e5_digest_120, e5_digest_121, e5_digest_122, e5_digest_125, e5_digest_128, e5_digest_129, e5_digest_130, e5_digest_131, hg, a_worst hI, a_safe, a_share hI hn, hy, m_kill, m_cE_i, m_cE_v, m_cE_ite, m_kill]
  generalize 31 * (31 * (31 * (31 * h2 + (f_gf M 100).toInt64) + ((f_wo M 0 N).1).toInt64) + (f_sf M 0).toInt64) + y = h3
  rw [z]
  refine Eq.trans (a_d3 h3 2 0 rfl) ?_
  generalize f_h h3 (fun t => f_kt (M 3 0 0 t)) 2 = h4
  simp only [e5_digest_165, e5_digest_166, e5_digest_169, e5_digest_170, e5_digest_173, s_ho L hL M hl hC h4, m_kill, m_cE_i, m_cE_v, m_cE_ite, m_kill]
end DIG3
