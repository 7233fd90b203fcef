/-! THE LAW LOOKS: claims, bars, numbers, settings. -/
section LOOKS2
variable {M Q : m_Mem} {L n N B c : Nat}
theorem q_cI (h : y_V Q L n N B c) (hc : c < 100000) (x w : Int32) (hx : f_bw x 0 9 = 0 ∨ f_bw w 0 4 = 0) : m_cl 97 [.ref (m_lc 1 0 0), .int x, .int w] Q = some (.inl (some (.int (-12))), m_bump Q) := by
  have e := a_claim (M := Q) x w
  by_cases h1 : f_bw x 0 9 = 0
  · rw [if_pos h1] at e
    exact u_claim_A _ _ e (y_cnt h hc)
  · rw [if_neg h1, if_pos (hx.resolve_left h1)] at e
    exact u_claim_A _ _ e (y_cnt h hc)
theorem q_c (h : y_V Q L n N B c) {q i : Nat} (hq : q < 10) (hi : i < 5) : m_cl 97 [.ref (m_lc 1 0 0), .int (nI q), .int (nI i)] Q = some (.inl (some (.int (Q 18 0 0 (6 * q + i)))), Q) := by
  have e := a_claim (M := Q) (nI q) (nI i)
  have b1 : f_bw (nI q) 0 9 = 1 := y_bw (l := 0) (u := 9) (by omega) (by omega) (by decide)
  have b2 : f_bw (nI i) 0 4 = 1 := y_bw (l := 0) (u := 4) (by omega) (by omega) (by decide)
  rw [if_neg (by rw [b1]; decide), if_neg (by rw [b2]; decide), nI_clamp (by omega), nI_clamp (by omega), z_cpp h.1.2.2.1 hq hi, y_18 hq (by omega)] at e
  exact u_claim _ _ e
theorem l_aC_l (h : y_V Q L n N B c) : ∀ (k i : Nat), i + k = 50 →
    m_E 113 42 [some (.ref (m_lc 1 0 0)), some (.ref (m_lc 18 0 0)), some (.int 1), some (.int (nI i))] [] Q = some (.inl (some (.int 1)), Q) := by
  intro k
  induction k with
  | zero =>
    intro i hi
    have e : i = 50 := by omega
    subst e
    simp only [eL_areClaims_42, eL_areClaims_43, eL_areClaims_45, (by decide : (50 : Int32) ≤ nI 50), if_true]
    simp only [eL_areClaims_89, eL_areClaims_90, m_nok11]
  | succ k ih =>
    intro i hi
    have hlt : i < 50 := by omega
    have hle : ¬ (50 : Int32) ≤ nI i := nI_ge (b := 50) hlt (by decide)
    have e5 : nI i / 5 = nI (i / 5) := nI_quo (b := 5) (by omega) (by decide) (by decide)
    have er : nI i - nI (i / 5) * 5 = nI (i % 5) := by
      rw [← e5]
      exact nI_remd (b := 5) (by omega) (by decide) (by decide)
    have e6 : nI (i / 5) * 6 = nI (6 * (i / 5)) := by rw [Int32.mul_comm]; exact nI_mul 6 _
    have hq := q_c h (q := i / 5) (i := i % 5) (by omega) (by omega)
    have hb : 6 * (i / 5) + i % 5 < 60 := by omega
    rw [eL_areClaims_42]
    simp only [eL_areClaims_43, eL_areClaims_45, eL_areClaims_48, eL_areClaims_49, eL_areClaims_52, eL_areClaims_53, eL_areClaims_54, eL_areClaims_55, eL_areClaims_56, eL_areClaims_57, eL_areClaims_58, eL_areClaims_59, eL_areClaims_62, eL_areClaims_63, eL_areClaims_64, eL_areClaims_65, eL_areClaims_66, eL_areClaims_68, eL_areClaims_69, eL_areClaims_70, eL_areClaims_71, eL_areClaims_72, eL_areClaims_73, eL_areClaims_74, eL_areClaims_77, eL_areClaims_78, eL_areClaims_81, eL_areClaims_82, eL_areClaims_83, eL_areClaims_86, hle, e5, er, e6, nI_add, hq, hb, nI_1, m_cE_i, m_kill, (by decide : ¬ (1 : Int32) = 0), (by decide : ¬ (5 : Int32) = 0), not_false_eq_true, if_true, if_false]
    exact ih (i + 1) (by omega)
theorem l_areClaims (h : y_V M L n N B c) (hc : c + 20 < 100000) : m_cl 113 [.ref (m_lc 1 0 0), .ref (m_lc 18 0 0)] M = some (.inl (some (.int 1)), y_b M 3) := by
  have e1 := q_cI h (by omega) 10 0 (Or.inl (by decide))
  have e2 := q_cI (y_bump h) (by omega) (-1) 0 (Or.inl (by decide))
  have e3 := q_cI (y_bump (y_bump h)) (by omega) 0 5 (Or.inr (by decide))
  have L1 := l_aC_l (y_Vb h 3) 50 0 rfl
  rw [eL_areClaims_en]
  simp only [eL_areClaims_0, eL_areClaims_1, eL_areClaims_3, eL_areClaims_4, eL_areClaims_7, eL_areClaims_9, e1, m_cE_i, if_true]
  simp only [eL_areClaims_12, eL_areClaims_13, eL_areClaims_14, eL_areClaims_15, eL_areClaims_18, eL_areClaims_20, e2, m_cE_i, if_true]
  simp only [eL_areClaims_23, eL_areClaims_24, eL_areClaims_25, eL_areClaims_26, eL_areClaims_29, eL_areClaims_31, e3, m_cE_i, if_true]
  simp only [eL_areClaims_34, eL_areClaims_35, eL_areClaims_38, eL_areClaims_39, eL_areClaims_40, eL_areClaims_41, m_kill]
  exact L1
theorem q_bO (h : y_V Q L n N B c) (hc : c < 100000) (x w : Int32) (hx : f_has x (nI B) 12 = 0) : m_cl 98 [.ref (m_lc 1 0 0), .int x, .int w] Q = some (.inl (some (.int (-11))), m_bump Q) := by
  have e := a_bar (y_fI h.1) x w
  rw [h.1.2.2.1.1.2.1.2.1, if_pos hx] at e
  exact u_bar_O _ _ e (y_cnt h hc)
theorem y_hasB {b : Nat} (hB : B ≤ 12) (hb : b < B) : f_has (nI b) (nI B) 12 = 1 := by
  unfold f_has
  rw [if_pos ⟨nI_pos' (by omega), nI_lt hb (by omega), (nI_lt (by omega) (by decide) : nI b < nI 12)⟩]
theorem q_bI (h : y_V Q L n N B c) (hc : c < 100000) {b : Nat} (hb : b < B) (w : Int32) (hw : f_bw w 0 4 = 0) : m_cl 98 [.ref (m_lc 1 0 0), .int (nI b), .int w] Q = some (.inl (some (.int (-12))), m_bump Q) := by
  have e := a_bar (y_fI h.1) (nI b) w
  rw [h.1.2.2.1.1.2.1.2.1, y_hasB (y_N h).2.2.2.1 hb, if_neg (by decide), if_pos hw] at e
  exact u_bar_A _ _ e (y_cnt h hc)
theorem q_b (h : y_V Q L n N B c) {b i : Nat} (hb : b < B) (hi : i < 5) : m_cl 98 [.ref (m_lc 1 0 0), .int (nI b), .int (nI i)] Q = some (.inl (some (.int (k_bp (y_K Q) b i))), Q) := by
  have hB := (y_N h).2.2.2.1
  have e := a_bar (y_fI h.1) (nI b) (nI i)
  have b2 : f_bw (nI i) 0 4 = 1 := y_bw (l := 0) (u := 4) (by omega) (by omega) (by decide)
  rw [h.1.2.2.1.1.2.1.2.1, y_hasB hB hb, if_neg (by decide), if_neg (by rw [b2]; decide), nI_clamp (by omega), nI_clamp (by omega), z_bp h.1.2.2.1 hb hi] at e
  exact u_bar _ _ e
theorem q_k (h : y_V Q L n N B c) {k : Nat} (hk : k < 17) : m_cl 95 [.ref (m_lc 1 0 0), .int (nI k)] Q = some (.inl (some (.int (k_num (y_K Q) n N B k))), Q) := by
  have e := a_count (y_fI h.1) (nI k)
  have b2 : f_bw (nI k) 0 16 = 1 := y_bw (l := 0) (u := 16) (by omega) (by omega) (by decide)
  rw [if_neg (by rw [b2]; decide), nI_clamp (by omega), z_num h.1.2.2.1 n hk] at e
  exact u_count _ e
theorem q_kI (h : y_V Q L n N B c) (hc : c < 100000) (w : Int32) (hw : f_bw w 0 16 = 0) : m_cl 95 [.ref (m_lc 1 0 0), .int w] Q = some (.inl (some (.int (-12))), m_bump Q) := by
  have e := a_count (y_fI h.1) w
  rw [if_pos hw] at e
  exact u_count_A _ e (y_cnt h hc)
theorem q_s (h : y_V Q L n N B c) {t : Nat} (ht : t < 5) : m_cl 99 [.ref (m_lc 1 0 0), .int (nI t)] Q = some (.inl (some (.int (Q 16 0 0 (8 + t)))), Q) := by
  have e := a_setting (M := Q) (nI t)
  have b2 : f_bw (nI t) 0 4 = 1 := y_bw (l := 0) (u := 4) (by omega) (by omega) (by decide)
  have hs : Q 11 0 0 t = Q 16 0 0 (8 + t) := by
    rw [← y_16 (M := Q) (show 8 + t < 13 by omega)]
    obtain ⟨s0, s1, s2, s3, s4⟩ := h.1.2.2.1.1.2.2.2.2
    have ht : t = 0 ∨ t = 1 ∨ t = 2 ∨ t = 3 ∨ t = 4 := by omega
    rcases ht with rfl | rfl | rfl | rfl | rfl
    · exact s0
    · exact s1
    · exact s2
    · exact s3
    · exact s4
  rw [if_neg (by rw [b2]; decide), nI_clamp (by omega), hs] at e
  exact u_setting _ e
theorem q_sO (h : y_V Q L n N B c) (hc : c < 100000) (w : Int32) (hw : f_bw w 0 4 = 0) : m_cl 99 [.ref (m_lc 1 0 0), .int w] Q = some (.inl (some (.int (-11))), m_bump Q) := by
  have e := a_setting (M := Q) w
  rw [if_pos hw] at e
  exact u_setting_O _ e (y_cnt h hc)
theorem k_fib_b (Q : m_Mem) (j : Nat) : ∀ n, k_fib (y_K (y_b Q j)) n = k_fib (y_K Q) n := by
  have e : y_K (y_b Q j) = y_K Q := y_cg (fun a b c k _ _ => y_b_n (by omega) j)
  intro n
  rw [e]
theorem l_aB1 (h : y_V Q L n N B c) (hc : c < 100000) {b : Nat} (hb : b < B) (x : Int32) :
    m_E 114 39 [some (.ref (m_lc 1 0 0)), some (.ref (m_lc 16 0 0)), some (.ref (m_lc 19 0 0)), some (.int 1), some (.int x), some (.int (nI b))] [] Q =
    m_E 114 39 [some (.ref (m_lc 1 0 0)), some (.ref (m_lc 16 0 0)), some (.ref (m_lc 19 0 0)), some (.int 1), some (.int (x + y_K Q 16 0 0 (137 + 3 * b + 1))), some (.int (nI (b + 1)))] [] (m_bump Q) := by
  obtain ⟨hN, hN8, hB, hB12, h75⟩ := y_N h
  have hle : ¬ nI B ≤ nI b := nI_ge hb (by omega)
  have b0 : 3 * b < 36 := by omega
  have b1 : 3 * b + 1 < 36 := by omega
  have b2 : 3 * b + 2 < 36 := by omega
  have f0 : k_bp (y_K Q) b 0 = Q 19 0 0 (3 * b) := y_190
  have f1 : k_bp (y_K Q) b 1 = Q 19 0 0 (3 * b + 1) := y_19
  have f3 : k_bp (y_K Q) b 3 = Q 19 0 0 (3 * b + 2) := y_19
  have f2 : k_bp (y_K Q) b 2 = 1000 * Q 19 0 0 (3 * b + 1) / Q 19 0 0 (3 * b) := by
    show 1000 * k_bp (y_K Q) b 1 / k_bp (y_K Q) b 0 = _
    rw [f0, f1]
  have f4 : k_bp (y_K Q) b 4 = Q 19 0 0 (3 * b + 1) * Q 16 0 0 9 / 10 := by
    show k_bp (y_K Q) b 1 * y_K Q 16 0 0 9 / 10 = _
    rw [f1, y_16 (by decide)]
  have hz : ¬ Q 19 0 0 (3 * b) = 0 := by
    have := z_W h.1.2.2.1 b hb
    rw [← f0]
    exact this
  have q0 : m_cl 98 [.ref (m_lc 1 0 0), .int (nI b), .int 0] Q = some (.inl (some (.int (k_bp (y_K Q) b 0))), Q) := q_b h hb (i := 0) (by decide)
  have q1 : m_cl 98 [.ref (m_lc 1 0 0), .int (nI b), .int 1] Q = some (.inl (some (.int (k_bp (y_K Q) b 1))), Q) := q_b h hb (i := 1) (by decide)
  have q2 : m_cl 98 [.ref (m_lc 1 0 0), .int (nI b), .int 2] Q = some (.inl (some (.int (k_bp (y_K Q) b 2))), Q) := q_b h hb (i := 2) (by decide)
  have q3 : m_cl 98 [.ref (m_lc 1 0 0), .int (nI b), .int 3] Q = some (.inl (some (.int (k_bp (y_K Q) b 3))), Q) := q_b h hb (i := 3) (by decide)
  have q4 : m_cl 98 [.ref (m_lc 1 0 0), .int (nI b), .int 4] Q = some (.inl (some (.int (k_bp (y_K Q) b 4))), Q) := q_b h hb (i := 4) (by decide)
  have q5 := q_bI h hc hb 5 (by decide)
  rw [y_19]
  rw [eL_areBars_39]
  simp only [eL_areBars_41, eL_areBars_42, eL_areBars_43, eL_areBars_44, eL_areBars_47, eL_areBars_48, eL_areBars_51, eL_areBars_53, eL_areBars_54, eL_areBars_55, eL_areBars_57, eL_areBars_58, eL_areBars_59, eL_areBars_60, eL_areBars_61, eL_areBars_62, eL_areBars_64, eL_areBars_65, eL_areBars_67, eL_areBars_68, eL_areBars_71, eL_areBars_72, eL_areBars_73, eL_areBars_75, eL_areBars_76, eL_areBars_77, hB, hle, b0, b1, g_x3, nI_1, q0, f0, m_cE_i, m_kill, (by decide : ¬ (1 : Int32) = 0), if_true, if_false]
  simp only [eL_areBars_80, eL_areBars_81, eL_areBars_83, eL_areBars_84, eL_areBars_87, eL_areBars_88, eL_areBars_89, eL_areBars_91, eL_areBars_92, eL_areBars_93, eL_areBars_94, eL_areBars_95, eL_areBars_98, eL_areBars_99, eL_areBars_101, eL_areBars_102, eL_areBars_105, eL_areBars_108, eL_areBars_109, eL_areBars_110, eL_areBars_112, eL_areBars_113, eL_areBars_114, eL_areBars_115, eL_areBars_116, eL_areBars_117, eL_areBars_118, eL_areBars_119, eL_areBars_121, eL_areBars_122, eL_areBars_123, eL_areBars_124, b0, b1, g_x3, nI_1, q1, q2, f1, f2, hz, not_false_eq_true, m_cE_i, if_true]
  simp only [eL_areBars_127, eL_areBars_128, eL_areBars_130, eL_areBars_131, eL_areBars_134, eL_areBars_135, eL_areBars_136, eL_areBars_138, eL_areBars_139, eL_areBars_140, eL_areBars_141, eL_areBars_142, eL_areBars_145, eL_areBars_146, eL_areBars_148, eL_areBars_149, eL_areBars_152, eL_areBars_153, eL_areBars_154, eL_areBars_156, eL_areBars_157, eL_areBars_158, eL_areBars_159, eL_areBars_160, eL_areBars_161, eL_areBars_163, eL_areBars_164, eL_areBars_165, eL_areBars_167, eL_areBars_168, b1, b2, g_x3, nI_1, i_p2, q3, q4, f3, f4, (by decide : ¬ (10 : Int32) = 0), not_false_eq_true, m_cE_i, if_true]
  simp only [eL_areBars_171, eL_areBars_172, eL_areBars_174, eL_areBars_175, eL_areBars_178, eL_areBars_180, eL_areBars_183, eL_areBars_184, eL_areBars_187, eL_areBars_188, eL_areBars_189, eL_areBars_192, q5, nI_1, m_cE_i, m_kill, if_true]
theorem l_aB_l (h : y_V Q L n N B c) (hc : c + 13 < 100000) : ∀ (k b : Nat), b + k = B →
    m_E 114 39 [some (.ref (m_lc 1 0 0)), some (.ref (m_lc 16 0 0)), some (.ref (m_lc 19 0 0)), some (.int 1), some (.int (k_fib (y_K Q) b)), some (.int (nI b))] [] (y_b Q b) = some (.inl (some (.int 1)), y_b Q B) := by
  obtain ⟨hN, hN8, hB, hB12, h75⟩ := y_N h
  intro k
  induction k with
  | zero =>
    intro b hb
    have e : b = B := by omega
    subst e
    have hle : nI b ≤ nI b := nI_le (Nat.le_refl _) (by omega)
    have hB2 : y_b Q b 16 0 0 5 = nI b := by rw [y_b_n (by decide)]; exact hB
    have q1 : m_cl 95 [.ref (m_lc 1 0 0), .int 13] (y_b Q b) = some (.inl (some (.int (k_fib (y_K (y_b Q b)) b))), y_b Q b) := q_k (y_Vb h b) (k := 13) (by decide)
    have q2 : m_cl 95 [.ref (m_lc 1 0 0), .int 14] (y_b Q b) = some (.inl (some (.int (k_tot (y_K (y_b Q b)) 4 N))), y_b Q b) := q_k (y_Vb h b) (k := 14) (by decide)
    have hb2 := y_Vb h b
    have et : k_tot (y_K (y_b Q b)) 4 N = k_fib (y_K (y_b Q b)) b := by
      rw [← z_tot hb2.1.2.2.1 (by decide) N (Nat.le_refl _), ← z_fib hb2.1.2.2.1 b (Nat.le_refl _)]
      exact hb2.1.2.2.2.1.2
    rw [et, k_fib_b] at q2
    rw [k_fib_b] at q1
    simp only [eL_areBars_39, eL_areBars_41, eL_areBars_42, eL_areBars_43, eL_areBars_44, hB2, hle, if_true]
    simp only [eL_areBars_195, eL_areBars_196, eL_areBars_199, eL_areBars_200, eL_areBars_202, eL_areBars_205, eL_areBars_207, eL_areBars_210, eL_areBars_211, eL_areBars_213, eL_areBars_216, eL_areBars_218, eL_areBars_221, eL_areBars_222, eL_areBars_225, eL_areBars_226, q1, q2, m_cE_i, m_nok11, (by decide : ¬ (1 : Int32) = 0), if_true, if_false]
  | succ k ih =>
    intro b hb
    have L1 := l_aB1 (y_Vb h b) (by omega) (show b < B by omega) (k_fib (y_K Q) b)
    have e : y_K (y_b Q b) = y_K Q := y_cg (fun a b c k _ _ => y_b_n (by omega) _)
    rw [e] at L1
    rw [L1]
    exact ih (b + 1) (by omega)
theorem l_areBars (h : y_V M L n N B c) (hc : c + 20 < 100000) : m_cl 114 [.ref (m_lc 1 0 0), .ref (m_lc 16 0 0), .ref (m_lc 19 0 0)] M = some (.inl (some (.int 1)), y_b M (2 + B)) := by
  obtain ⟨hN, hN8, hB, hB12, h75⟩ := y_N h
  have e1 := q_bO h (by omega) (nI B) 0 (by unfold f_has; rw [if_neg]; rintro ⟨-, h2, -⟩; exact absurd h2 (nI_nlt (Nat.le_refl _) (by omega)))
  have e2 := q_bO (y_bump h) (by omega) (-1) 9 (if_neg (fun q => absurd q.1 (by decide)))
  have L1 := l_aB_l (y_Vb h 2) (by omega) B 0 (by omega)
  have e3 : k_fib (y_K (y_b M 2)) 0 = M 16 0 0 3 := by
    rw [k_fib_b]
    exact y_16 (by decide)
  have e4 : m_bump (m_bump M) 16 0 0 3 = M 16 0 0 3 := by rw [m_bump_n (by decide), m_bump_n (by decide)]
  rw [e3] at L1
  rw [eL_areBars_en]
  simp only [eL_areBars_0, eL_areBars_1, eL_areBars_2, eL_areBars_3, eL_areBars_4, eL_areBars_5, eL_areBars_8, eL_areBars_10, hB, e1, m_cE_i, if_true]
  simp only [eL_areBars_13, eL_areBars_14, eL_areBars_15, eL_areBars_17, eL_areBars_20, eL_areBars_22, eL_areBars_25, eL_areBars_26, eL_areBars_29, eL_areBars_30, eL_areBars_31, eL_areBars_32, eL_areBars_33, eL_areBars_34, eL_areBars_36, eL_areBars_37, e2, e4, m_cE_i, m_kill, if_true]
  rw [show (0 : Int32) = nI 0 from rfl]
  refine L1.trans ?_
  rw [y_b_add]
theorem i_4 (a b c x y z : Int32) : a + x + (b + y) - (c + z) = a + b - c + (x + y - z) := by
  have e : ∀ u v : Int32, u - v = u + -v := fun u v => Int32.sub_eq_add_neg u v
  have n : ∀ u v : Int32, -(u + v) = -u + -v := fun u v => by rw [Int32.neg_add, Int32.sub_eq_add_neg]
  rw [e, e, e, n]
  ac_rfl
theorem y_paid (h : y_V Q L n N B c) : ∀ m, m ≤ N → k_tot (y_K Q) 0 m + k_tot (y_K Q) 7 m - k_tot (y_K Q) 1 m = k_tot (y_K Q) 5 m
  | 0, _ => (by decide : (0 : Int32) + 0 - 0 = 0)
  | m + 1, hm => by
    have hN8 := (y_N h).2.1
    show k_tot (y_K Q) 0 m + y_K Q 16 0 0 (13 + 8 * m + 0) + (k_tot (y_K Q) 7 m + y_K Q 16 0 0 (13 + 8 * m + 7)) - (k_tot (y_K Q) 1 m + y_K Q 16 0 0 (13 + 8 * m + 1)) = k_tot (y_K Q) 5 m + y_K Q 16 0 0 (13 + 8 * m + 5)
    have e0 : y_K Q 16 0 0 (13 + 8 * m + 0) = Q 17 0 0 (8 * m) := y_170 (by omega)
    rw [i_4, y_paid h m (by omega), e0, y_17 (by omega) (by decide), y_17 (by omega) (by decide), y_17 (by omega) (by decide), (y_money h (d := m) (by omega)).2.2.2]
theorem l_iS_in (h : y_V Q L n N B c) {i : Nat} (hi : i < 8) (p : Int32) : ∀ (k m : Nat), m + k = N →
    m_E 115 58 [some (.ref (m_lc 1 0 0)), some (.ref (m_lc 16 0 0)), some (.ref (m_lc 17 0 0)), some (.ref (m_lc 18 0 0)), some (.ref (m_lc 19 0 0)), some (.int 1), some (.int p), some (.int (nI i)), some (.int (k_tot (y_K Q) i m)), some (.int (nI m))] [] Q =
    m_E 115 87 [some (.ref (m_lc 1 0 0)), some (.ref (m_lc 16 0 0)), some (.ref (m_lc 17 0 0)), some (.ref (m_lc 18 0 0)), some (.ref (m_lc 19 0 0)), some (.int 1), some (.int p), some (.int (nI i)), some (.int (k_tot (y_K Q) i N)), some (.int (nI N))] [] Q := by
  obtain ⟨hN, hN8, hB, hB12, h75⟩ := y_N h
  intro k
  induction k with
  | zero =>
    intro m hm
    have e : m = N := by omega
    subst e
    have hle : nI m ≤ nI m := nI_le (Nat.le_refl _) (by omega)
    simp only [eL_isSo_58, eL_isSo_60, eL_isSo_61, eL_isSo_62, eL_isSo_63, hN, hle, if_true]
  | succ k ih =>
    intro m hm
    have hle : ¬ nI N ≤ nI m := nI_ge (by omega) (by omega)
    have hb : 8 * m + i < 64 := by omega
    have ih2 := ih (m + 1) (by omega)
    have et : k_tot (y_K Q) i (m + 1) = k_tot (y_K Q) i m + Q 17 0 0 (8 * m + i) := by
      show k_tot (y_K Q) i m + y_K Q 16 0 0 (13 + 8 * m + i) = _
      rw [y_17 (by omega) hi]
    rw [et] at ih2
    rw [eL_isSo_58]
    simp only [eL_isSo_60, eL_isSo_61, eL_isSo_62, eL_isSo_63, eL_isSo_66, eL_isSo_68, eL_isSo_69, eL_isSo_71, eL_isSo_73, eL_isSo_74, eL_isSo_76, eL_isSo_77, eL_isSo_78, eL_isSo_79, eL_isSo_81, eL_isSo_84, hN, hle, hb, g_x8, nI_add, nI_1, m_kill, if_false]
    exact ih2
theorem l_iS1 (h : y_V Q L n N B c) {i : Nat} (hi : i < 8) (p : Int32) (v8 v9 : Option Value) : ∃ v8' v9',
    m_E 115 40 [some (.ref (m_lc 1 0 0)), some (.ref (m_lc 16 0 0)), some (.ref (m_lc 17 0 0)), some (.ref (m_lc 18 0 0)), some (.ref (m_lc 19 0 0)), some (.int 1), some (.int p), some (.int (nI i)), v8, v9] [] Q =
    m_E 115 40 [some (.ref (m_lc 1 0 0)), some (.ref (m_lc 16 0 0)), some (.ref (m_lc 17 0 0)), some (.ref (m_lc 18 0 0)), some (.ref (m_lc 19 0 0)), some (.int 1), some (.int (if i = 5 then k_tot (y_K Q) 5 N else p)), some (.int (nI (i + 1))), v8', v9'] [] Q := by
  have hle : ¬ (8 : Int32) ≤ nI i := nI_ge (b := 8) hi (by decide)
  have L1 := l_iS_in h hi p N 0 (by omega)
  refine ⟨some (.int (k_tot (y_K Q) i N)), some (.int (nI N)), ?_⟩
  rw [eL_isSo_40]
  simp only [eL_isSo_42, eL_isSo_44, eL_isSo_47, eL_isSo_49, eL_isSo_52, eL_isSo_53, eL_isSo_55, eL_isSo_56, hle, m_kill, (by decide : ¬ (1 : Int32) = 0), if_false]
  refine Eq.trans L1 ?_
  by_cases c1 : i < 2
  · have d1 : nI i ≤ 1 := nI_le (b := 1) (by omega) (by decide)
    have d2 : ¬ nI i = 5 := fun q => by have := (nI_eq (b := 5) (by omega) (by decide)).mp q; omega
    have d3 : ¬ (2 : Int32) ≤ nI i := nI_ge (b := 2) (by omega) (by decide)
    have q := q_k h (k := 8 + i) (by omega)
    have ek : k_num (y_K Q) n N B (8 + i) = k_tot (y_K Q) i N := by
      have : i = 0 ∨ i = 1 := by omega
      rcases this with rfl | rfl <;> rfl
    rw [ek] at q
    rw [if_neg (by omega)]
    simp only [eL_isSo_87, eL_isSo_89, eL_isSo_90, eL_isSo_93, eL_isSo_95, eL_isSo_98, eL_isSo_100, eL_isSo_102, eL_isSo_104, eL_isSo_105, eL_isSo_108, eL_isSo_110, eL_isSo_111, d1, d2, m_kill, if_true, if_false]
    simp only [eL_isSo_114, eL_isSo_115, eL_isSo_117, eL_isSo_118, eL_isSo_121, eL_isSo_123, eL_isSo_125, eL_isSo_126, eL_isSo_129, eL_isSo_130, eL_isSo_132, eL_isSo_133, eL_isSo_136, eL_isSo_138, eL_isSo_141, eL_isSo_142, eL_isSo_145, eL_isSo_146, eL_isSo_148, eL_isSo_151, d3, q, g_a8, nI_1, m_cE_i, m_kill, if_true, if_false]
  · have d1 : ¬ nI i ≤ 1 := nI_ge (a := 1) (by omega) (by omega)
    by_cases c2 : i < 5
    · have d2 : ¬ nI i = 5 := fun q => by have := (nI_eq (b := 5) (by omega) (by decide)).mp q; omega
      have d3 : nI i < 5 := nI_lt (b := 5) (by omega) (by decide)
      rw [if_neg (by omega)]
      simp only [eL_isSo_87, eL_isSo_89, eL_isSo_90, eL_isSo_93, eL_isSo_95, eL_isSo_98, eL_isSo_100, eL_isSo_102, eL_isSo_104, eL_isSo_105, eL_isSo_108, eL_isSo_110, eL_isSo_111, d1, d2, d3, m_kill, if_true, if_false]
      simp only [eL_isSo_141, eL_isSo_142, eL_isSo_145, eL_isSo_146, eL_isSo_148, eL_isSo_151, nI_1, m_kill]
    · have d3 : ¬ nI i < 5 := nI_nlt (b := 5) (by omega) (by omega)
      have d4 : (2 : Int32) ≤ nI i := nI_le (a := 2) (by omega) (by omega)
      have q := q_k h (k := 5 + i) (by omega)
      have e5 : (5 : Int32) + nI i = nI (5 + i) := nI_add 5 i
      have ek : k_num (y_K Q) n N B (5 + i) = k_tot (y_K Q) i N := by
        have : i = 5 ∨ i = 6 ∨ i = 7 := by omega
        rcases this with rfl | rfl | rfl <;> rfl
      rw [ek] at q
      by_cases c3 : i = 5
      · have d2 : nI i = 5 := by rw [c3]; rfl
        rw [if_pos c3]
        simp only [eL_isSo_87, eL_isSo_89, eL_isSo_90, eL_isSo_93, eL_isSo_95, eL_isSo_98, eL_isSo_100, eL_isSo_102, eL_isSo_104, eL_isSo_105, eL_isSo_108, eL_isSo_110, eL_isSo_111, d1, d2, d3, m_kill, if_true, if_false]
        rw [d2] at d1 d3 d4 e5
        rw [c3] at q e5 ⊢
        simp only [eL_isSo_100, eL_isSo_102, eL_isSo_104, eL_isSo_105, eL_isSo_108, eL_isSo_110, eL_isSo_111, d1, d3, m_kill, if_false]
        simp only [eL_isSo_114, eL_isSo_115, eL_isSo_117, eL_isSo_118, eL_isSo_121, eL_isSo_123, eL_isSo_125, eL_isSo_126, eL_isSo_129, eL_isSo_130, eL_isSo_132, eL_isSo_133, eL_isSo_136, eL_isSo_138, eL_isSo_141, eL_isSo_142, eL_isSo_145, eL_isSo_146, eL_isSo_148, eL_isSo_151, d4, e5, q, m_cE_i, m_kill, if_true]
        rfl
      · have d2 : ¬ nI i = 5 := fun q => by have := (nI_eq (b := 5) (by omega) (by decide)).mp q; omega
        rw [if_neg c3]
        simp only [eL_isSo_87, eL_isSo_89, eL_isSo_90, eL_isSo_93, eL_isSo_95, eL_isSo_98, eL_isSo_100, eL_isSo_102, eL_isSo_104, eL_isSo_105, eL_isSo_108, eL_isSo_110, eL_isSo_111, d1, d2, d3, m_kill, if_false]
        simp only [eL_isSo_114, eL_isSo_115, eL_isSo_117, eL_isSo_118, eL_isSo_121, eL_isSo_123, eL_isSo_125, eL_isSo_126, eL_isSo_129, eL_isSo_130, eL_isSo_132, eL_isSo_133, eL_isSo_136, eL_isSo_138, eL_isSo_141, eL_isSo_142, eL_isSo_145, eL_isSo_146, eL_isSo_148, eL_isSo_151, d4, e5, q, nI_1, m_cE_i, m_kill, if_true]
theorem l_iS_s (h : y_V Q L n N B c) (p : Int32) (v8 v9 : Option Value) : ∀ (k t : Nat), t + k = 5 →
    m_E 115 157 [some (.ref (m_lc 1 0 0)), some (.ref (m_lc 16 0 0)), some (.ref (m_lc 17 0 0)), some (.ref (m_lc 18 0 0)), some (.ref (m_lc 19 0 0)), some (.int 1), some (.int p), some (.int (nI t)), v8, v9] [] Q =
    m_E 115 197 [some (.ref (m_lc 1 0 0)), some (.ref (m_lc 16 0 0)), some (.ref (m_lc 17 0 0)), some (.ref (m_lc 18 0 0)), some (.ref (m_lc 19 0 0)), some (.int 1), some (.int p), some (.int (nI 5)), v8, v9] [] Q := by
  intro k
  induction k with
  | zero =>
    intro t ht
    have e : t = 5 := by omega
    subst e
    simp only [eL_isSo_157, eL_isSo_159, eL_isSo_160, (by decide : (5 : Int32) ≤ nI 5), if_true]
  | succ k ih =>
    intro t ht
    have hlt : t < 5 := by omega
    have hle : ¬ (5 : Int32) ≤ nI t := nI_ge (b := 5) hlt (by decide)
    have hb : 8 + t < 13 := by omega
    have hq := q_s h hlt
    rw [eL_isSo_157]
    simp only [eL_isSo_159, eL_isSo_160, eL_isSo_163, eL_isSo_165, eL_isSo_168, eL_isSo_169, eL_isSo_171, eL_isSo_174, eL_isSo_175, eL_isSo_177, eL_isSo_179, eL_isSo_180, eL_isSo_181, eL_isSo_184, eL_isSo_185, eL_isSo_188, eL_isSo_189, eL_isSo_191, eL_isSo_194, hle, hq, hb, g_a8, nI_1, m_cE_i, m_kill, (by decide : ¬ (1 : Int32) = 0), if_true, if_false]
    exact ih (t + 1) (by omega)
theorem l_isSo (h : y_V M L n N B c) (hc : c + 40 < 100000) : m_cl 115 [.ref (m_lc 1 0 0), .ref (m_lc 16 0 0), .ref (m_lc 17 0 0), .ref (m_lc 18 0 0), .ref (m_lc 19 0 0)] M = some (.inl (some (.int 1)), y_b M (10 + N + B)) := by
  obtain ⟨hN, hN8, hB, hB12, h75⟩ := y_N h
  have e1 := l_areDiggers h (by omega)
  have h1 := y_Vb h (3 + N)
  have e2 := l_areClaims h1 (by omega)
  have h2 := y_Vb h1 3
  have e3 := l_areBars h2 (by omega)
  have h3 := y_Vb h2 (2 + B)
  rw [eL_isSo_en]
  simp only [eL_isSo_0, eL_isSo_1, eL_isSo_2, eL_isSo_3, eL_isSo_6, eL_isSo_9, eL_isSo_10, eL_isSo_11, eL_isSo_14, eL_isSo_17, eL_isSo_18, eL_isSo_19, eL_isSo_21, eL_isSo_24, eL_isSo_27, eL_isSo_28, eL_isSo_31, eL_isSo_32, eL_isSo_34, eL_isSo_35, eL_isSo_37, eL_isSo_38, e1, e2, e3, m_cE_i, m_kill, (by decide : ¬ (1 : Int32) = 0), if_false]
  have hz : y_b (y_b (y_b (y_b M (3 + N)) 3) (2 + B)) 2 = y_b M (10 + N + B) := by
    rw [y_b_add, y_b_add, y_b_add]
    congr 1
    omega
  rw [← hz]
  have hc3 : c + (3 + N) + 3 + (2 + B) + 2 < 100000 := by omega
  clear e1 e2 e3 hz
  generalize y_b (y_b (y_b M (3 + N)) 3) (2 + B) = Q at h3 ⊢
  generalize c + (3 + N) + 3 + (2 + B) = c3 at h3 hc3
  rw [show (0 : Int32) = nI 0 from rfl]
  obtain ⟨a0, b0, L0⟩ := l_iS1 h3 (i := 0) (by decide) (nI 0) none none
  obtain ⟨a1, b1, L1⟩ := l_iS1 h3 (i := 1) (by decide) (nI 0) a0 b0
  obtain ⟨a2, b2, L2⟩ := l_iS1 h3 (i := 2) (by decide) (nI 0) a1 b1
  obtain ⟨a3, b3, L3⟩ := l_iS1 h3 (i := 3) (by decide) (nI 0) a2 b2
  obtain ⟨a4, b4, L4⟩ := l_iS1 h3 (i := 4) (by decide) (nI 0) a3 b3
  obtain ⟨a5, b5, L5⟩ := l_iS1 h3 (i := 5) (by decide) (nI 0) a4 b4
  obtain ⟨a6, b6, L6⟩ := l_iS1 h3 (i := 6) (by decide) (k_tot (y_K Q) 5 N) a5 b5
  obtain ⟨a7, b7, L7⟩ := l_iS1 h3 (i := 7) (by decide) (k_tot (y_K Q) 5 N) a6 b6
  refine L0.trans (L1.trans (L2.trans (L3.trans (L4.trans (L5.trans (L6.trans (L7.trans ?_)))))))
  have LS := l_iS_s h3 (k_tot (y_K Q) 5 N) a7 b7 5 0 rfl
  rw [if_neg (by decide)]
  simp only [eL_isSo_40, eL_isSo_42, eL_isSo_44, (by decide : (8 : Int32) ≤ nI (7 + 1)), if_true]
  simp only [eL_isSo_154, eL_isSo_155, m_kill]
  rw [show (0 : Int32) = nI 0 from rfl]
  refine LS.trans ?_
  have r : ∀ k, k < 13 → y_K Q 16 0 0 k = Q 16 0 0 k := fun k hk => y_16 hk
  have q0 : m_cl 95 [.ref (m_lc 1 0 0), .int 0] Q = some (.inl (some (.int (y_K Q 16 0 0 0))), Q) := q_k h3 (k := 0) (by decide)
  have q1 : m_cl 95 [.ref (m_lc 1 0 0), .int 1] Q = some (.inl (some (.int (y_K Q 16 0 0 1))), Q) := q_k h3 (k := 1) (by decide)
  have q2 : m_cl 95 [.ref (m_lc 1 0 0), .int 2] Q = some (.inl (some (.int (k_tk (y_K Q) 10))), Q) := q_k h3 (k := 2) (by decide)
  have q3 : m_cl 95 [.ref (m_lc 1 0 0), .int 3] Q = some (.inl (some (.int (y_K Q 16 0 0 2))), Q) := q_k h3 (k := 3) (by decide)
  have q4 : m_cl 95 [.ref (m_lc 1 0 0), .int 4] Q = some (.inl (some (.int (y_K Q 16 0 0 3))), Q) := q_k h3 (k := 4) (by decide)
  have q5 : m_cl 95 [.ref (m_lc 1 0 0), .int 5] Q = some (.inl (some (.int (y_K Q 16 0 0 5))), Q) := q_k h3 (k := 5) (by decide)
  have q6 : m_cl 95 [.ref (m_lc 1 0 0), .int 6] Q = some (.inl (some (.int (y_K Q 16 0 0 6 + 50))), Q) := q_k h3 (k := 6) (by decide)
  have q7 : m_cl 95 [.ref (m_lc 1 0 0), .int 7] Q = some (.inl (some (.int (y_K Q 16 0 0 7))), Q) := q_k h3 (k := 7) (by decide)
  have q15 : m_cl 95 [.ref (m_lc 1 0 0), .int 15] Q = some (.inl (some (.int (k_tot (y_K Q) 0 N + k_tot (y_K Q) 7 N - k_tot (y_K Q) 1 N))), Q) := q_k h3 (k := 15) (by decide)
  rw [y_paid h3 N (Nat.le_refl _)] at q15
  rw [r _ (by decide)] at q0 q1 q3 q4 q5 q6 q7
  have s1 := q_sO h3 (by omega) 5 (by decide)
  have s2 := q_sO (y_bump h3) (by omega) (-1) (by decide)
  simp only [eL_isSo_197, eL_isSo_199, eL_isSo_202, eL_isSo_203, eL_isSo_204, eL_isSo_207, eL_isSo_208, eL_isSo_209, eL_isSo_210, eL_isSo_213, eL_isSo_214, eL_isSo_215, eL_isSo_218, eL_isSo_219, eL_isSo_220, eL_isSo_221, eL_isSo_224, eL_isSo_225, eL_isSo_226, eL_isSo_229, eL_isSo_230, eL_isSo_233, eL_isSo_236, eL_isSo_237, eL_isSo_238, eL_isSo_241, eL_isSo_242, eL_isSo_243, eL_isSo_244, q0, q1, q2, q3, l_staked, m_cE_i, (by decide : ¬ (1 : Int32) = 0), if_true, if_false]
  simp only [eL_isSo_247, eL_isSo_248, eL_isSo_249, eL_isSo_252, eL_isSo_253, eL_isSo_254, eL_isSo_255, eL_isSo_258, eL_isSo_259, eL_isSo_260, eL_isSo_263, eL_isSo_264, eL_isSo_265, eL_isSo_266, eL_isSo_269, eL_isSo_270, eL_isSo_272, eL_isSo_275, eL_isSo_276, eL_isSo_278, eL_isSo_279, eL_isSo_281, eL_isSo_282, eL_isSo_285, eL_isSo_286, eL_isSo_288, eL_isSo_291, eL_isSo_292, eL_isSo_294, eL_isSo_295, eL_isSo_298, eL_isSo_299, eL_isSo_301, eL_isSo_304, eL_isSo_306, q4, q5, q6, q7, q15, m_cE_i, if_true]
  simp only [eL_isSo_309, eL_isSo_310, eL_isSo_311, eL_isSo_314, eL_isSo_316, eL_isSo_319, eL_isSo_320, eL_isSo_321, eL_isSo_324, eL_isSo_326, eL_isSo_329, eL_isSo_330, eL_isSo_333, eL_isSo_334, s1, s2, m_cE_i, m_nok11, if_true]
  rfl
end LOOKS2
