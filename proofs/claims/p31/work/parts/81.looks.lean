/-! THE LAW LOOKS: diggers. -/
/-- k exceptions more were caught -/
def y_b (M : m_Mem) : Nat → m_Mem
  | 0 => M
  | k + 1 => m_bump (y_b M k)
theorem y_b_add (M : m_Mem) (a : Nat) : ∀ b, y_b (y_b M a) b = y_b M (a + b)
  | 0 => rfl
  | b + 1 => by
    show m_bump (y_b (y_b M a) b) = m_bump (y_b M (a + b))
    rw [y_b_add M a b]
theorem m_bump_n {M : m_Mem} {a b c k : Nat} (h : a ≠ 28) : m_bump M a b c k = M a b c k := by
  unfold m_bump
  rw [m_set_n (by omega)]
theorem y_b_n {M : m_Mem} {a b c k : Nat} (h : a ≠ 28) : ∀ n, y_b M n a b c k = M a b c k
  | 0 => rfl
  | n + 1 => (m_bump_n h).trans (y_b_n h n)
section LOOKS
variable {M Q : m_Mem} {L n N B c : Nat}
theorem y_Vb (h : y_V M L n N B c) : ∀ k, y_V (y_b M k) L n N B (c + k)
  | 0 => h
  | k + 1 => y_bump (y_Vb h k)
theorem q_dO (h : y_V Q L n N B c) (hc : c < 100000) (x w : Int32) (hx : f_has x (nI N) 8 = 0) : m_cl 96 [.ref (m_lc 1 0 0), .int x, .int w] Q = some (.inl (some (.int (-11))), m_bump Q) := by
  have e := a_diggerOf (y_fI h.1) x w
  rw [(y_N h).2.2.2.2, if_pos hx] at e
  exact u_diggerOf_O _ _ e (y_cnt h hc)
theorem q_dI (h : y_V Q L n N B c) (hc : c < 100000) {d : Nat} (hd : d < N) (w : Int32) (hw : f_bw w 0 8 = 0) : m_cl 96 [.ref (m_lc 1 0 0), .int (nI d), .int w] Q = some (.inl (some (.int (-12))), m_bump Q) := by
  obtain ⟨hN, hN8, hB, hB12, h75⟩ := y_N h
  have e := a_diggerOf (y_fI h.1) (nI d) w
  rw [y_has1 hN8 hd _ h75, if_neg (by decide), if_pos hw] at e
  exact u_diggerOf_A _ _ e (y_cnt h hc)
theorem q_d (h : y_V Q L n N B c) {d i : Nat} (hd : d < N) (hi : i < 8) : m_cl 96 [.ref (m_lc 1 0 0), .int (nI d), .int (nI i)] Q = some (.inl (some (.int (Q 17 0 0 (8 * d + i)))), Q) := by
  obtain ⟨hN, hN8, hB, hB12, h75⟩ := y_N h
  have e := a_diggerOf (y_fI h.1) (nI d) (nI i)
  have hbw : f_bw (nI i) 0 8 = 1 := y_bw (l := 0) (u := 8) (by omega) (by omega) (by decide)
  rw [y_has1 hN8 hd _ h75, if_neg (by decide), if_neg (by rw [hbw]; decide), nI_clamp (by omega), nI_clamp (by omega), z_dp h.1.2.2.1 hd (by omega)] at e
  unfold k_dp at e
  rw [if_pos hi, y_17 (by omega) hi] at e
  exact u_diggerOf _ _ e
theorem q_d8 (h : y_V Q L n N B c) {d : Nat} (hd : d < N) : m_cl 96 [.ref (m_lc 1 0 0), .int (nI d), .int 8] Q = some (.inl (some (.int (if 0 < Q 17 0 0 (8 * d + 5) + Q 17 0 0 (8 * d + 6) - Q 17 0 0 (8 * d + 4) * Q 16 0 0 9 / 10 then 1 else 0))), Q) := by
  obtain ⟨hN, hN8, hB, hB12, h75⟩ := y_N h
  have e := a_diggerOf (y_fI h.1) (nI d) 8
  rw [y_has1 hN8 hd _ h75, if_neg (by decide), if_neg (by decide), nI_clamp (by omega), show Int32.toNatClampNeg 8 = 8 from by decide, z_dp h.1.2.2.1 hd (by omega)] at e
  unfold k_dp k_lost k_worth at e
  rw [if_neg (by decide), y_17 (by omega) (by decide), y_17 (by omega) (by decide), y_17 (by omega) (by decide), y_16 (by decide)] at e
  exact u_diggerOf _ _ e
/-- what a digger's account says -/
theorem y_money (h : y_V Q L n N B c) {d : Nat} (hd : d < N) : 0 ≤ Q 17 0 0 (8 * d) ∧ 0 ≤ Q 17 0 0 (8 * d + 1) ∧ Q 17 0 0 (8 * d + 1) ≤ 5000 ∧ Q 17 0 0 (8 * d) + Q 17 0 0 (8 * d + 7) - Q 17 0 0 (8 * d + 1) = Q 17 0 0 (8 * d + 5) := by
  have hN8 := (y_N h).2.1
  have hD := h.1.2.2.1.2.1.1 d hd
  obtain ⟨s, t, q, y, g, ⟨a1, a2, a3, a4, a5⟩, r1, r2, r3, r4⟩ := h.1.2.2.2.1.1 d hd
  rw [hD 0 (by decide)] at a1
  rw [hD 1 (by decide), y_17 (by omega) (by decide)] at a2
  rw [hD 7 (by decide), y_17 (by omega) (by decide)] at a3
  rw [hD 5 (by decide), y_17 (by omega) (by decide)] at a4
  have a1 : Q 17 0 0 (8 * d) = nI s := by rw [← a1]; exact (y_170 (by omega)).symm
  rw [a1, a2, a3, a4, nI_add, nI_subs (by omega), show s + q - t = y from by omega]
  exact ⟨nI_pos' (by omega), nI_pos' (by omega), (nI_le (by omega) (by decide) : nI t ≤ nI 5000), rfl⟩
theorem l_aD_in (h : y_V Q L n N B c) {d : Nat} (hd : d < N) (v6 : Int32) : ∀ (k i : Nat), i + k = 8 →
    m_E 112 100 [some (.ref (m_lc 1 0 0)), some (.ref (m_lc 16 0 0)), some (.ref (m_lc 17 0 0)), some (.int 1), some (.int (nI d)), some (.int (nI (8 * d))), some (.int v6), some (.int (nI i))] [] Q =
    m_E 112 141 [some (.ref (m_lc 1 0 0)), some (.ref (m_lc 16 0 0)), some (.ref (m_lc 17 0 0)), some (.int 1), some (.int (nI d)), some (.int (nI (8 * d))), some (.int v6), some (.int (nI 8))] [] Q := by
  have hN8 := (y_N h).2.1
  intro k
  induction k with
  | zero =>
    intro i hi
    have e : i = 8 := by omega
    subst e
    simp only [eL_areDiggers_100, eL_areDiggers_102, eL_areDiggers_104, (by decide : (8 : Int32) ≤ nI 8), if_true]
  | succ k ih =>
    intro i hi
    have hlt : i < 8 := by omega
    have hle : ¬ (8 : Int32) ≤ nI i := nI_ge (b := 8) hlt (by decide)
    have hb : 8 * d + i < 64 := by omega
    have hq := q_d h hd hlt
    rw [eL_areDiggers_100]
    simp only [eL_areDiggers_102, eL_areDiggers_104, eL_areDiggers_107, eL_areDiggers_108, eL_areDiggers_111, eL_areDiggers_112, eL_areDiggers_114, eL_areDiggers_116, eL_areDiggers_119, eL_areDiggers_120, eL_areDiggers_122, eL_areDiggers_124, eL_areDiggers_125, eL_areDiggers_126, eL_areDiggers_129, eL_areDiggers_130, eL_areDiggers_133, eL_areDiggers_134, eL_areDiggers_135, eL_areDiggers_138, hle, hq, hb, nI_add, nI_1, m_cE_i, m_kill, (by decide : ¬ (1 : Int32) = 0), if_true, if_false]
    exact ih (i + 1) (by omega)
theorem l_aD1 (h : y_V Q L n N B c) (hc : c < 100000) {d : Nat} (hd : d < N) (v5 v6 v7 : Option Value) : ∃ v5' v6' v7',
    m_E 112 47 [some (.ref (m_lc 1 0 0)), some (.ref (m_lc 16 0 0)), some (.ref (m_lc 17 0 0)), some (.int 1), some (.int (nI d)), v5, v6, v7] [] Q =
    m_E 112 47 [some (.ref (m_lc 1 0 0)), some (.ref (m_lc 16 0 0)), some (.ref (m_lc 17 0 0)), some (.int 1), some (.int (nI (d + 1))), v5', v6', v7'] [] (m_bump Q) := by
  obtain ⟨hN, hN8, hB, hB12, h75⟩ := y_N h
  have hle : ¬ nI N ≤ nI d := nI_ge hd (by omega)
  have b0 : 8 * d < 64 := by omega
  have b1 : 8 * d + 1 < 64 := by omega
  have b4 : 8 * d + 4 < 64 := by omega
  have b5 : 8 * d + 5 < 64 := by omega
  have b6 : 8 * d + 6 < 64 := by omega
  have b7 : 8 * d + 7 < 64 := by omega
  have hq := q_d8 h hd
  have hx := q_dI h hc hd 9 (by decide)
  obtain ⟨m1, m2, m3, m4⟩ := y_money h hd
  have n1 : ¬ Q 17 0 0 (8 * d) < 0 := Int32.not_lt.mpr m1
  have n2 : ¬ Q 17 0 0 (8 * d + 1) < 0 := Int32.not_lt.mpr m2
  have n3 : ¬ 5000 < Q 17 0 0 (8 * d + 1) := Int32.not_lt.mpr m3
  have bo : ∀ k, m_bump Q 17 0 0 k = Q 17 0 0 k := fun k => m_bump_n (by decide)
  have L1 := fun v6 => l_aD_in h hd v6 8 0 rfl
  refine ⟨some (.int (nI (8 * d))), some (.int (Q 17 0 0 (8 * d + 5) + Q 17 0 0 (8 * d + 6) - Q 17 0 0 (8 * d + 4) * Q 16 0 0 9 / 10)), some (.int (nI 8)), ?_⟩
  rw [eL_areDiggers_47]
  simp only [eL_areDiggers_49, eL_areDiggers_50, eL_areDiggers_51, eL_areDiggers_52, eL_areDiggers_55, eL_areDiggers_56, eL_areDiggers_59, eL_areDiggers_61, eL_areDiggers_63, eL_areDiggers_64, eL_areDiggers_66, eL_areDiggers_67, eL_areDiggers_69, eL_areDiggers_70, eL_areDiggers_71, eL_areDiggers_72, eL_areDiggers_73, eL_areDiggers_75, eL_areDiggers_77, eL_areDiggers_78, eL_areDiggers_79, eL_areDiggers_80, eL_areDiggers_81, eL_areDiggers_83, eL_areDiggers_84, eL_areDiggers_85, eL_areDiggers_86, eL_areDiggers_87, eL_areDiggers_89, eL_areDiggers_90, eL_areDiggers_91, eL_areDiggers_93, eL_areDiggers_94, eL_areDiggers_95, eL_areDiggers_97, eL_areDiggers_98, hN, hle, b4, b5, b6, g_x8, i_p4, i_p5, i_p6, m_kill, (by decide : ¬ (1 : Int32) = 0), (by decide : ¬ (10 : Int32) = 0), not_false_eq_true, if_false]
  rw [show (0 : Int32) = nI 0 from rfl]
  refine Eq.trans (L1 _) ?_
  generalize hL : Q 17 0 0 (8 * d + 5) + Q 17 0 0 (8 * d + 6) - Q 17 0 0 (8 * d + 4) * Q 16 0 0 9 / 10 = lost at hq ⊢
  have key : ∀ w, m_E 112 163 [some (.ref (m_lc 1 0 0)), some (.ref (m_lc 16 0 0)), some (.ref (m_lc 17 0 0)), some (.int 1), some (.int (nI d)), some (.int (nI (8 * d))), some (.int lost), some (.int (nI 8))] [.int w, .int w] Q =
      m_E 112 47 [some (.ref (m_lc 1 0 0)), some (.ref (m_lc 16 0 0)), some (.ref (m_lc 17 0 0)), some (.int 1), some (.int (nI (d + 1))), some (.int (nI (8 * d))), some (.int lost), some (.int (nI 8))] [] (m_bump Q) := by
    intro w
    simp only [eL_areDiggers_163, eL_areDiggers_166, eL_areDiggers_167, eL_areDiggers_169, eL_areDiggers_171, eL_areDiggers_174, hx, m_cE_i, if_true]
    simp only [eL_areDiggers_176, eL_areDiggers_179, eL_areDiggers_180, eL_areDiggers_182, eL_areDiggers_183, eL_areDiggers_186, eL_areDiggers_187, eL_areDiggers_189, eL_areDiggers_190, eL_areDiggers_191, eL_areDiggers_192, eL_areDiggers_195, eL_areDiggers_196, eL_areDiggers_198, eL_areDiggers_199, eL_areDiggers_200, eL_areDiggers_201, eL_areDiggers_204, eL_areDiggers_207, eL_areDiggers_208, eL_areDiggers_210, eL_areDiggers_211, eL_areDiggers_212, eL_areDiggers_214, eL_areDiggers_216, eL_areDiggers_217, eL_areDiggers_218, eL_areDiggers_219, eL_areDiggers_220, eL_areDiggers_222, eL_areDiggers_223, eL_areDiggers_224, eL_areDiggers_225, eL_areDiggers_226, eL_areDiggers_227, eL_areDiggers_229, eL_areDiggers_230, eL_areDiggers_231, eL_areDiggers_232, eL_areDiggers_235, eL_areDiggers_236, eL_areDiggers_239, eL_areDiggers_240, eL_areDiggers_241, eL_areDiggers_244, bo, b0, b1, b5, b7, n1, n2, n3, m4, nI_1, i_p5, i_p7, m_kill, if_true, if_false]
  by_cases hl : 0 < lost
  · have hl2 : ¬ lost ≤ 0 := Int32.not_le.mpr hl
    rw [if_pos hl] at hq
    simp only [eL_areDiggers_141, eL_areDiggers_142, eL_areDiggers_145, eL_areDiggers_146, eL_areDiggers_148, eL_areDiggers_150, eL_areDiggers_153, eL_areDiggers_155, eL_areDiggers_158, eL_areDiggers_159, eL_areDiggers_162, hq, hl2, m_cE_i, (by decide : ¬ (1 : Int32) = 0), if_false]
    exact key _
  · have hl2 : lost ≤ 0 := Int32.not_lt.mp hl
    rw [if_neg hl] at hq
    simp only [eL_areDiggers_141, eL_areDiggers_142, eL_areDiggers_145, eL_areDiggers_146, eL_areDiggers_148, eL_areDiggers_150, eL_areDiggers_153, eL_areDiggers_155, eL_areDiggers_158, eL_areDiggers_159, eL_areDiggers_162, hq, hl2, m_cE_i, (by decide : ¬ (1 : Int32) = 0), if_false, if_true]
    exact key _
theorem l_aD_l (h : y_V Q L n N B c) (hc : c + 9 < 100000) : ∀ (k d : Nat) (v5 v6 v7 : Option Value), d + k = N →
    m_E 112 47 [some (.ref (m_lc 1 0 0)), some (.ref (m_lc 16 0 0)), some (.ref (m_lc 17 0 0)), some (.int 1), some (.int (nI d)), v5, v6, v7] [] (y_b Q d) = some (.inl (some (.int 1)), y_b Q N) := by
  have hN8 := (y_N h).2.1
  intro k
  induction k with
  | zero =>
    intro d v5 v6 v7 hd
    have e : d = N := by omega
    subst e
    have hle : nI d ≤ nI d := nI_le (Nat.le_refl _) (by omega)
    have hN : y_b Q d 16 0 0 1 = nI d := by rw [y_b_n (by decide)]; exact (y_N h).1
    simp only [eL_areDiggers_47, eL_areDiggers_49, eL_areDiggers_50, eL_areDiggers_51, eL_areDiggers_52, hN, hle, if_true]
    simp only [eL_areDiggers_247, eL_areDiggers_248, m_nok11]
  | succ k ih =>
    intro d v5 v6 v7 hd
    obtain ⟨a, b, e, hh⟩ := l_aD1 (y_Vb h d) (by omega) (show d < N by omega) v5 v6 v7
    rw [hh]
    exact ih (d + 1) a b e (by omega)
theorem l_areDiggers (h : y_V M L n N B c) (hc : c + 20 < 100000) : m_cl 112 [.ref (m_lc 1 0 0), .ref (m_lc 16 0 0), .ref (m_lc 17 0 0)] M = some (.inl (some (.int 1)), y_b M (3 + N)) := by
  obtain ⟨hN, hN8, hB, hB12, h75⟩ := y_N h
  have e1 := q_dO h (by omega) (nI N) 0 (y_has0 (N := N) (by omega) (Nat.le_refl _) _ rfl)
  have e2 := q_dO (y_bump h) (by omega) (-1) 0 (if_neg (fun q => absurd q.1 (by decide)))
  have e3 := q_dO (y_bump (y_bump h)) (by omega) (nI N) 9 (y_has0 (N := N) (by omega) (Nat.le_refl _) _ rfl)
  have hN2 : m_bump (m_bump M) 16 0 0 1 = nI N := by rw [m_bump_n (by decide), m_bump_n (by decide)]; exact hN
  have L1 := l_aD_l (y_Vb h 3) (by omega) N 0 none none none (by omega)
  rw [eL_areDiggers_en]
  simp only [eL_areDiggers_0, eL_areDiggers_1, eL_areDiggers_2, eL_areDiggers_3, eL_areDiggers_4, eL_areDiggers_5, eL_areDiggers_8, hN, e1, m_cE_i]
  simp only [eL_areDiggers_10, eL_areDiggers_13, eL_areDiggers_14, eL_areDiggers_15, eL_areDiggers_16, eL_areDiggers_19, e2, m_cE_i, if_true]
  simp only [eL_areDiggers_21, eL_areDiggers_24, eL_areDiggers_25, eL_areDiggers_26, eL_areDiggers_27, eL_areDiggers_28, eL_areDiggers_30, eL_areDiggers_33, hN2, e3, m_cE_i, if_true]
  simp only [eL_areDiggers_35, eL_areDiggers_38, eL_areDiggers_39, eL_areDiggers_42, eL_areDiggers_43, eL_areDiggers_44, eL_areDiggers_45, m_kill, if_true]
  rw [show (0 : Int32) = nI 0 from rfl]
  refine L1.trans ?_
  rw [y_b_add]
end LOOKS
