/-! ONE TURN of the law: its arms. -/
def y_A (E : Option m_R) (L c : Nat) : Prop := ∃ M2 c', E = some (.inl (some (.int 1)), M2) ∧ y_VV M2 L c' ∧ c' ≤ c + 1
/-- a digger's row is laid -/
def l_dg (M : m_Mem) (d : Nat) : Nat → m_Mem
  | 0 => M
  | n + 1 => m_set (l_dg M d n) 17 0 0 (8 * d + n) (if n = 2 then -1 else 0)
def l_fr (M : m_Mem) (d c : Nat) : m_Mem := m_set (m_set (m_set M 17 0 0 (8 * d + 2) (-1)) 18 0 0 (6 * c + 1) (-1)) 18 0 0 (6 * c + 2) 0
section ARMS
variable {M M1 : m_Mem} {L n N B c : Nat}
theorem i_50 : ∀ r, r < 101 → f_bw (nI r - 50) (-50) 50 = 1 := by decide +kernel
theorem y_dg {d : Nat} (hd : d < 8) : ∀ k, k ≤ 8 → y_K (l_dg M d k) = k_dg (y_K M) d k
  | 0, _ => rfl
  | k + 1, hk => by
    show y_K (m_set (l_dg M d k) 17 0 0 (8 * d + k) _) = m_set (k_dg (y_K M) d k) 16 0 0 (13 + 8 * d + k) _
    rw [y_s17 hd (by omega), y_dg hd k (by omega)]
theorem w_ldg {d : Nat} {a b c' k : Nat} (h : a ≠ 17) : ∀ m, l_dg M d m a b c' k = M a b c' k
  | 0 => rfl
  | m + 1 => by
    show m_set (l_dg M d m) 17 0 0 _ _ a b c' k = _
    rw [m_set_n (by omega), w_ldg h m]
theorem y_fr {d q : Nat} (hd : d < 8) (hq : q < 10) : y_K (l_fr M d q) = k_fr (y_K M) d q := by
  unfold l_fr k_fr
  rw [y_s18 hq (by decide), y_s18 hq (by decide), y_s17 hd (by decide)]
theorem x_head (h : y_V M L n N B c) (z : Int32) : ∃ y w d, y < 10000000 ∧ w < 32 ∧ d < 16 ∧ m_cl 111 [.ref (m_lc 1 0 0), .ref (m_lc 16 0 0), .ref (m_lc 17 0 0), .ref (m_lc 18 0 0), .ref (m_lc 19 0 0), .int z] M =
    m_E 111 48 [some (.ref (m_lc 1 0 0)), some (.ref (m_lc 16 0 0)), some (.ref (m_lc 17 0 0)), some (.ref (m_lc 18 0 0)), some (.ref (m_lc 19 0 0)), some (.int z), some (.int (nI y)), some (.int (nI w)), some (.int (nI d)), none, none] [] M := by
  obtain ⟨hN, hN8, hB, hB12, h75⟩ := y_N h
  obtain ⟨y, hy, e1⟩ := l_low (M := M) (z >>> (5 &&& 31)) 10000000 (by decide) (by decide)
  obtain ⟨w, hw, e2⟩ := l_low (M := M) z 32 (by decide) (by decide)
  have e1 : m_cl 101 [.int (z >>> (5 &&& 31)), .int 10000000] M = some (.inl (some (.int (nI y))), M) := e1
  have e2 : m_cl 101 [.int z, .int 32] M = some (.inl (some (.int (nI w))), M) := e2
  rw [eL_acts_en]
  simp only [eL_acts_0, eL_acts_2, eL_acts_3, eL_acts_4, eL_acts_6, eL_acts_9, eL_acts_11, eL_acts_13, eL_acts_15, eL_acts_18, e1, e2, m_cE_i, m_kill]
  by_cases h0 : N = 0
  · have hz : nI N = 0 := by rw [h0]; rfl
    refine ⟨y, w, N, hy, hw, by omega, ?_⟩
    simp only [eL_acts_20, eL_acts_21, eL_acts_22, eL_acts_23, eL_acts_26, eL_acts_28, eL_acts_30, eL_acts_31, eL_acts_34, eL_acts_35, eL_acts_36, eL_acts_37, eL_acts_40, eL_acts_42, eL_acts_43, eL_acts_44, eL_acts_45, eL_acts_46, hN, hz, m_kill, if_true]
  · have hz : ¬ nI N = 0 := nI_ne0 (by omega) (by omega)
    by_cases h1 : nI y - nI y / 16 * 16 = 0
    · refine ⟨y, w, N, hy, hw, by omega, ?_⟩
      simp only [eL_acts_20, eL_acts_21, eL_acts_22, eL_acts_23, eL_acts_26, eL_acts_28, eL_acts_30, eL_acts_31, eL_acts_34, eL_acts_35, eL_acts_36, eL_acts_37, eL_acts_40, eL_acts_42, eL_acts_43, eL_acts_44, eL_acts_45, eL_acts_46, hN, hz, h1, m_kill, (by decide : ¬ (16 : Int32) = 0), not_false_eq_true, if_true, if_false]
    · have er := nI_remd (a := y) (b := N) (by omega) (by omega) (by omega)
      refine ⟨y, w, y % N, hy, hw, by have := Nat.mod_lt y (show 0 < N by omega); omega, ?_⟩
      simp only [eL_acts_20, eL_acts_21, eL_acts_22, eL_acts_23, eL_acts_26, eL_acts_28, eL_acts_30, eL_acts_31, eL_acts_34, eL_acts_35, eL_acts_36, eL_acts_37, eL_acts_40, eL_acts_42, eL_acts_43, eL_acts_44, eL_acts_45, eL_acts_46, hN, hz, h1, er, m_kill, (by decide : ¬ (16 : Int32) = 0), not_false_eq_true, if_true, if_false]
variable {y w d : Nat} {z : Int32} {v9 v10 : Option Value}
theorem x_dig (h : y_V M L n N B c) (hcn : c < 99999) (hw : w < 3) : y_A (m_E 111 48 [some (.ref (m_lc 1 0 0)), some (.ref (m_lc 16 0 0)), some (.ref (m_lc 17 0 0)), some (.ref (m_lc 18 0 0)), some (.ref (m_lc 19 0 0)), some (.int z), some (.int (nI y)), some (.int (nI w)), some (.int (nI d)), none, none] [] M) L c := by
  obtain ⟨hN, hN8, hB, hB12, h75⟩ := y_N h
  have w3 : ¬ (3 : Int32) ≤ nI w := nI_ge (b := 3) hw (by decide)
  have e := a_digger (y_fI h.1)
  by_cases h8 : N = 8
  · have n8 : nI N = 8 := by rw [h8]; rfl
    rw [if_neg (by omega)] at e
    have u := u_digger_S e (y_cnt h (by omega))
    refine ⟨_, _, ?_, ⟨n, N, B, y_bump h⟩, Nat.le_refl _⟩
    simp only [eL_acts_48, eL_acts_50, eL_acts_51, eL_acts_54, eL_acts_55, eL_acts_56, eL_acts_57, eL_acts_59, eL_acts_62, eL_acts_63, eL_acts_66, eL_acts_68, eL_acts_71, eL_acts_72, eL_acts_75, eL_acts_76, w3, hN, n8, u, m_cE_i, m_nok11, if_true, if_false]
  · have n8 : ¬ nI N = 8 := fun q => h8 ((nI_eq (b := 8) (by omega) (by decide)).mp q)
    have loop : ∀ (k i : Nat), i + k = 8 → m_E 111 80 [some (.ref (m_lc 1 0 0)), some (.ref (m_lc 16 0 0)), some (.ref (m_lc 17 0 0)), some (.ref (m_lc 18 0 0)), some (.ref (m_lc 19 0 0)), some (.int z), some (.int (nI y)), some (.int (nI w)), some (.int (nI d)), some (.int (nI i)), none] [] (l_dg M N i) = m_E 111 115 [some (.ref (m_lc 1 0 0)), some (.ref (m_lc 16 0 0)), some (.ref (m_lc 17 0 0)), some (.ref (m_lc 18 0 0)), some (.ref (m_lc 19 0 0)), some (.int z), some (.int (nI y)), some (.int (nI w)), some (.int (nI d)), some (.int (nI 8)), none] [] (l_dg M N 8) := by
      intro k
      induction k with
      | zero =>
        intro i hi
        have e : i = 8 := by omega
        subst e
        simp only [eL_acts_80, eL_acts_82, eL_acts_84, (by decide : (8 : Int32) ≤ nI 8), if_true]
      | succ k ih =>
        intro i hi
        have hlt : i < 8 := by omega
        have hle : ¬ (8 : Int32) ≤ nI i := nI_ge (b := 8) hlt (by decide)
        have hb : 8 * N + i < 64 := by omega
        have g1 : l_dg M N i 16 0 0 1 = nI N := (w_ldg (by decide) i).trans hN
        have ih2 := ih (i + 1) (by omega)
        rw [eL_acts_80]
        by_cases h2 : i = 2
        · have i2 : nI i = 2 := by rw [h2]; rfl
          have el : l_dg M N (i + 1) = m_set (l_dg M N i) 17 0 0 (8 * N + i) (-1) := by
            show m_set _ _ _ _ _ (if i = 2 then -1 else 0) = _
            rw [if_pos h2]
          rw [el] at ih2
          simp only [eL_acts_82, eL_acts_84, eL_acts_87, eL_acts_88, eL_acts_90, eL_acts_91, eL_acts_92, eL_acts_93, eL_acts_94, eL_acts_96, eL_acts_97, eL_acts_99, eL_acts_100, hle, g1, g_x8, nI_add, if_false]
          rw [if_pos i2]
          simp only [eL_acts_103, eL_acts_104, eL_acts_107, eL_acts_108, eL_acts_109, eL_acts_112, hb, nI_1, m_kill]
          exact ih2
        · have i2 : ¬ nI i = 2 := fun q => h2 ((nI_eq (b := 2) (by omega) (by decide)).mp q)
          have el : l_dg M N (i + 1) = m_set (l_dg M N i) 17 0 0 (8 * N + i) 0 := by
            show m_set _ _ _ _ _ (if i = 2 then -1 else 0) = _
            rw [if_neg h2]
          rw [el] at ih2
          simp only [eL_acts_82, eL_acts_84, eL_acts_87, eL_acts_88, eL_acts_90, eL_acts_91, eL_acts_92, eL_acts_93, eL_acts_94, eL_acts_96, eL_acts_97, eL_acts_99, eL_acts_100, hle, g1, g_x8, nI_add, i2, if_false]
          simp only [eL_acts_107, eL_acts_108, eL_acts_109, eL_acts_112, hb, nI_1, m_kill]
          exact ih2
    have L1 := loop 8 0 rfl
    have hM1 : m_set (l_dg M N 8) 16 0 0 1 (nI N + 1) = m_set (l_dg M N 8) 16 0 0 1 (nI (N + 1)) := by rw [nI_1]
    have f : ∀ a b c' k, (a < 16 ∨ 19 < a) → m_set (l_dg M N 8) 16 0 0 1 (nI (N + 1)) a b c' k = M a b c' k := fun a b c' k hh => by rw [m_set_n (by omega), w_ldg (by omega)]
    have hW := y_V1 h f
    have e2 := a_digger (y_fI hW)
    rw [if_pos (by omega)] at e2
    have u := u_digger e2
    have hT := y_digger (y_sv hW) (by omega)
    have hK : y_K (m_set (l_dg M N 8) 16 0 0 1 (nI (N + 1))) = m_set (k_dg (y_K M) N 8) 16 0 0 1 (nI (N + 1)) := by rw [y_s16 (by decide), y_dg (by omega) 8 (Nat.le_refl _)]
    rw [← hK] at hT
    have hF : y_f (y_K (m_set (l_dg M N 8) 16 0 0 1 (nI (N + 1)))) := by
      rw [hK]
      refine y_f_o h.2.1 (fun q j hq hj => ?_)
      rw [m_set_n (by omega), k_dg_n (by omega)]
    refine ⟨_, _, ?_, y_fin h f hT hF (y_svf (fun a b c' k hh => m_set_n (by omega))), Nat.le_succ _⟩
    simp only [eL_acts_48, eL_acts_50, eL_acts_51, eL_acts_54, eL_acts_55, eL_acts_56, eL_acts_57, eL_acts_59, eL_acts_62, eL_acts_63, eL_acts_66, eL_acts_68, eL_acts_71, eL_acts_72, eL_acts_75, eL_acts_76, eL_acts_77, eL_acts_78, w3, hN, n8, m_kill, if_false]
    rw [show (0 : Int32) = nI 0 from rfl]
    refine L1.trans ?_
    have g1 : l_dg M N 8 16 0 0 1 = nI N := (w_ldg (by decide) 8).trans hN
    have g2 : m_set (f_sv (m_set (l_dg M N 8) 16 0 0 1 (nI (N + 1))) n) 7 0 0 5 (nI (N + 1)) 16 0 0 1 = nI (N + 1) := by
      rw [m_set_n (by omega), f_sv_15 (by decide), m_set_i]
    simp only [eL_acts_115, eL_acts_116, eL_acts_117, eL_acts_118, eL_acts_119, eL_acts_120, eL_acts_121, eL_acts_122, eL_acts_123, g1, hM1, u, m_cE_i]
    simp only [eL_acts_126, eL_acts_127, eL_acts_128, eL_acts_129, eL_acts_130, eL_acts_131, eL_acts_134, eL_acts_135, eL_acts_138, eL_acts_139, g2, nI_pred, m_nok11, if_true]
theorem x_stake (h : y_V M L n N B c) (hcn : c < 99999) (hy : y < 10000000) (hd : d < 16) (hw : 3 ≤ w) (hw2 : w < 8) : y_A (m_E 111 48 [some (.ref (m_lc 1 0 0)), some (.ref (m_lc 16 0 0)), some (.ref (m_lc 17 0 0)), some (.ref (m_lc 18 0 0)), some (.ref (m_lc 19 0 0)), some (.int z), some (.int (nI y)), some (.int (nI w)), some (.int (nI d)), none, none] [] M) L c := by
  have w3 : (3 : Int32) ≤ nI w := nI_le (a := 3) hw (by omega)
  have w8 : ¬ (8 : Int32) ≤ nI w := nI_ge (b := 8) hw2 (by decide)
  have q8 : nI y / 8 = nI (y / 8) := nI_quo (b := 8) (by omega) (by decide) (by decide)
  have r10 : nI (y / 8) - nI (y / 8) / 10 * 10 = nI (y / 8 % 10) := nI_remd (b := 10) (by omega) (by decide) (by decide)
  obtain ⟨v, M1, M2, c', l, u, hv, hc'⟩ := p_stake h hcn d (y / 8 % 10) hd (by omega)
  refine ⟨M2, c', ?_, hv, hc'⟩
  simp only [eL_acts_48, eL_acts_50, eL_acts_51, eL_acts_140, eL_acts_142, eL_acts_144, eL_acts_147, eL_acts_149, eL_acts_151, eL_acts_152, eL_acts_154, eL_acts_155, eL_acts_157, eL_acts_158, eL_acts_159, eL_acts_160, eL_acts_162, eL_acts_164, eL_acts_167, eL_acts_169, eL_acts_170, eL_acts_172, eL_acts_174, eL_acts_177, eL_acts_179, eL_acts_182, eL_acts_183, eL_acts_186, eL_acts_187, w3, w8, q8, r10, l, u, m_cE_i, m_kill, m_nok11, (by decide : ¬ (8 : Int32) = 0), (by decide : ¬ (10 : Int32) = 0), not_false_eq_true, if_true, if_false]
theorem x_weigh (h : y_V M L n N B c) (hcn : c < 99999) (hy : y < 10000000) (hd : d < 16) (hw : 8 ≤ w) (hw2 : w < 16) : y_A (m_E 111 48 [some (.ref (m_lc 1 0 0)), some (.ref (m_lc 16 0 0)), some (.ref (m_lc 17 0 0)), some (.ref (m_lc 18 0 0)), some (.ref (m_lc 19 0 0)), some (.int z), some (.int (nI y)), some (.int (nI w)), some (.int (nI d)), none, none] [] M) L c := by
  have w3 : (3 : Int32) ≤ nI w := nI_le (a := 3) (by omega) (by omega)
  have w8 : (8 : Int32) ≤ nI w := nI_le (a := 8) hw (by omega)
  have w16 : ¬ (16 : Int32) ≤ nI w := nI_ge (b := 16) hw2 (by decide)
  have q8 : nI y / 8 = nI (y / 8) := nI_quo (b := 8) (by omega) (by decide) (by decide)
  have key : ∀ m : Nat, 0 < m → m ≤ 9999 → y_A (m_E 111 217 [some (.ref (m_lc 1 0 0)), some (.ref (m_lc 16 0 0)), some (.ref (m_lc 17 0 0)), some (.ref (m_lc 18 0 0)), some (.ref (m_lc 19 0 0)), some (.int z), some (.int (nI y)), some (.int (nI w)), some (.int (nI d)), none, none] [.int (nI m), .int (nI (y / 8)), .int 1] M) L c := by
    intro m h0 hm
    have hne := nI_ne0 h0 (show m < 2 ^ 31 by omega)
    have r := nI_remd (a := y / 8) (b := m) (by omega) (by omega) h0
    have e1 : (1 : Int32) + nI (y / 8 % m) = nI (1 + y / 8 % m) := nI_add 1 _
    have hl := Nat.mod_lt (y / 8) h0
    obtain ⟨v, M1, M2, c', l, u, hv, hc'⟩ := p_weigh h hcn d (1 + y / 8 % m) hd (by omega)
    refine ⟨M2, c', ?_, hv, hc'⟩
    simp only [eL_acts_217, eL_acts_218, eL_acts_219, eL_acts_221, eL_acts_222, eL_acts_223, eL_acts_224, eL_acts_226, eL_acts_228, eL_acts_231, eL_acts_233, eL_acts_234, eL_acts_236, eL_acts_238, eL_acts_241, eL_acts_243, eL_acts_246, eL_acts_247, eL_acts_250, eL_acts_251, hne, r, e1, l, u, m_cE_i, m_kill, m_nok11, not_false_eq_true, if_true, if_false]
  simp only [eL_acts_48, eL_acts_50, eL_acts_51, eL_acts_140, eL_acts_142, eL_acts_144, eL_acts_188, eL_acts_190, eL_acts_192, eL_acts_195, eL_acts_196, eL_acts_198, eL_acts_200, eL_acts_201, eL_acts_203, eL_acts_204, eL_acts_205, w3, w8, w16, q8, (by decide : ¬ (8 : Int32) = 0), (by decide : ¬ (3 : Int32) = 0), not_false_eq_true, if_true, if_false]
  by_cases h3 : nI y - nI y / 3 * 3 = 0
  · rw [if_pos h3]
    simp only [eL_acts_208, eL_acts_211]
    exact key 9999 (by decide) (by decide)
  · rw [if_neg h3]
    simp only [eL_acts_214]
    exact key 500 (by decide) (by decide)
theorem x_buy (h : y_V M L n N B c) (hcn : c < 99999) (hy : y < 10000000) (hd : d < 16) (hw : 16 ≤ w) (hw2 : w < 20) : y_A (m_E 111 48 [some (.ref (m_lc 1 0 0)), some (.ref (m_lc 16 0 0)), some (.ref (m_lc 17 0 0)), some (.ref (m_lc 18 0 0)), some (.ref (m_lc 19 0 0)), some (.int z), some (.int (nI y)), some (.int (nI w)), some (.int (nI d)), none, none] [] M) L c := by
  have w3 : (3 : Int32) ≤ nI w := nI_le (a := 3) (by omega) (by omega)
  have w8 : (8 : Int32) ≤ nI w := nI_le (a := 8) (by omega) (by omega)
  have w16 : (16 : Int32) ≤ nI w := nI_le (a := 16) hw (by omega)
  have w20 : ¬ (20 : Int32) ≤ nI w := nI_ge (b := 20) hw2 (by decide)
  have q8 : nI y / 8 = nI (y / 8) := nI_quo (b := 8) (by omega) (by decide) (by decide)
  have key : ∀ m : Nat, 0 < m → m ≤ 9999 → y_A (m_E 111 281 [some (.ref (m_lc 1 0 0)), some (.ref (m_lc 16 0 0)), some (.ref (m_lc 17 0 0)), some (.ref (m_lc 18 0 0)), some (.ref (m_lc 19 0 0)), some (.int z), some (.int (nI y)), some (.int (nI w)), some (.int (nI d)), none, none] [.int (nI m), .int (nI (y / 8)), .int 1] M) L c := by
    intro m h0 hm
    have hne := nI_ne0 h0 (show m < 2 ^ 31 by omega)
    have r := nI_remd (a := y / 8) (b := m) (by omega) (by omega) h0
    have e1 : (1 : Int32) + nI (y / 8 % m) = nI (1 + y / 8 % m) := nI_add 1 _
    have hl := Nat.mod_lt (y / 8) h0
    obtain ⟨v, M1, M2, c', l, u, hv, hc'⟩ := p_buy h hcn d (1 + y / 8 % m) hd (by omega)
    refine ⟨M2, c', ?_, hv, hc'⟩
    simp only [eL_acts_281, eL_acts_282, eL_acts_283, eL_acts_285, eL_acts_286, eL_acts_287, eL_acts_289, eL_acts_291, eL_acts_294, eL_acts_296, eL_acts_297, eL_acts_299, eL_acts_301, eL_acts_304, eL_acts_306, eL_acts_309, eL_acts_310, eL_acts_313, eL_acts_314, hne, r, e1, l, u, m_cE_i, m_kill, m_nok11, not_false_eq_true, if_true, if_false]
  simp only [eL_acts_48, eL_acts_50, eL_acts_51, eL_acts_140, eL_acts_142, eL_acts_144, eL_acts_188, eL_acts_190, eL_acts_192, eL_acts_252, eL_acts_254, eL_acts_256, eL_acts_259, eL_acts_260, eL_acts_262, eL_acts_264, eL_acts_265, eL_acts_267, eL_acts_268, eL_acts_269, w3, w8, w16, w20, q8, (by decide : ¬ (8 : Int32) = 0), (by decide : ¬ (4 : Int32) = 0), not_false_eq_true, if_true, if_false]
  by_cases h3 : nI y - nI y / 4 * 4 = 0
  · rw [if_pos h3]
    simp only [eL_acts_272, eL_acts_275]
    exact key 9999 (by decide) (by decide)
  · rw [if_neg h3]
    simp only [eL_acts_278]
    exact key 1500 (by decide) (by decide)
theorem x_melt (h : y_V M L n N B c) (hcn : c < 99999) (hw : w = 20) : y_A (m_E 111 48 [some (.ref (m_lc 1 0 0)), some (.ref (m_lc 16 0 0)), some (.ref (m_lc 17 0 0)), some (.ref (m_lc 18 0 0)), some (.ref (m_lc 19 0 0)), some (.int z), some (.int (nI y)), some (.int (nI w)), some (.int (nI d)), none, none] [] M) L c := by
  subst hw
  obtain ⟨v, M1, M2, c', l, u, hv, hc'⟩ := p_melt h hcn
  refine ⟨M2, c', ?_, hv, hc'⟩
  simp only [eL_acts_48, eL_acts_50, eL_acts_51, eL_acts_140, eL_acts_142, eL_acts_144, eL_acts_188, eL_acts_190, eL_acts_192, eL_acts_252, eL_acts_254, eL_acts_256, (by decide : (3 : Int32) ≤ nI 20), (by decide : (8 : Int32) ≤ nI 20), (by decide : (16 : Int32) ≤ nI 20), (by decide : (20 : Int32) ≤ nI 20), if_true]
  simp only [eL_acts_315, eL_acts_317, eL_acts_319, eL_acts_322, eL_acts_323, eL_acts_325, eL_acts_328, eL_acts_330, eL_acts_331, eL_acts_334, eL_acts_336, eL_acts_339, eL_acts_340, eL_acts_343, eL_acts_344, (by decide : nI 20 = 20), l, u, m_cE_i, m_kill, m_nok11, if_true]
theorem x_pass (h : y_V M L n N B c) (hcn : c < 99999) (hy : y < 10000000) (hw : 22 ≤ w) (hw2 : w < 24) : y_A (m_E 111 48 [some (.ref (m_lc 1 0 0)), some (.ref (m_lc 16 0 0)), some (.ref (m_lc 17 0 0)), some (.ref (m_lc 18 0 0)), some (.ref (m_lc 19 0 0)), some (.int z), some (.int (nI y)), some (.int (nI w)), some (.int (nI d)), none, none] [] M) L c := by
  have w3 : (3 : Int32) ≤ nI w := nI_le (a := 3) (by omega) (by omega)
  have w8 : (8 : Int32) ≤ nI w := nI_le (a := 8) (by omega) (by omega)
  have w16 : (16 : Int32) ≤ nI w := nI_le (a := 16) (by omega) (by omega)
  have w20 : (20 : Int32) ≤ nI w := nI_le (a := 20) (by omega) (by omega)
  have n20 : ¬ nI w = 20 := fun q => by have := (nI_eq (b := 20) (by omega) (by decide)).mp q; omega
  have n21 : ¬ nI w = 21 := fun q => by have := (nI_eq (b := 21) (by omega) (by decide)).mp q; omega
  have w24 : ¬ (24 : Int32) ≤ nI w := nI_ge (b := 24) hw2 (by decide)
  have key : ∀ m : Nat, 0 < m → m ≤ 30 → y_A (m_E 111 428 [some (.ref (m_lc 1 0 0)), some (.ref (m_lc 16 0 0)), some (.ref (m_lc 17 0 0)), some (.ref (m_lc 18 0 0)), some (.ref (m_lc 19 0 0)), some (.int z), some (.int (nI y)), some (.int (nI w)), some (.int (nI d)), none, none] [.int (nI m), .int (nI y), .int 1] M) L c := by
    intro m h0 hm
    have hne := nI_ne0 h0 (show m < 2 ^ 31 by omega)
    have r := nI_remd (a := y) (b := m) (by omega) (by omega) h0
    have e1 : (1 : Int32) + nI (y % m) = nI (1 + y % m) := nI_add 1 _
    have hl := Nat.mod_lt y h0
    obtain ⟨v, M1, M2, c', l, u, hv, hc'⟩ := p_pass h hcn (1 + y % m) (by omega)
    refine ⟨M2, c', ?_, hv, hc'⟩
    simp only [eL_acts_428, eL_acts_429, eL_acts_430, eL_acts_432, eL_acts_433, eL_acts_434, eL_acts_435, eL_acts_437, eL_acts_440, eL_acts_442, eL_acts_443, eL_acts_445, eL_acts_448, eL_acts_450, eL_acts_453, eL_acts_454, eL_acts_457, eL_acts_458, hne, r, e1, l, u, m_cE_i, m_kill, m_nok11, not_false_eq_true, if_true, if_false]
  simp only [eL_acts_48, eL_acts_50, eL_acts_51, eL_acts_140, eL_acts_142, eL_acts_144, eL_acts_188, eL_acts_190, eL_acts_192, eL_acts_252, eL_acts_254, eL_acts_256, w3, w8, w16, w20, if_true]
  simp only [eL_acts_315, eL_acts_317, eL_acts_319, eL_acts_345, eL_acts_347, eL_acts_349, eL_acts_405, eL_acts_407, eL_acts_409, eL_acts_412, eL_acts_413, eL_acts_415, eL_acts_417, eL_acts_418, eL_acts_419, n20, n21, w24, (by decide : ¬ (4 : Int32) = 0), not_false_eq_true, if_false]
  by_cases h3 : nI y - nI y / 4 * 4 = 0
  · rw [if_pos h3]
    simp only [eL_acts_422, eL_acts_424]
    exact key 30 (by decide) (by decide)
  · rw [if_neg h3]
    simp only [eL_acts_427]
    exact key 4 (by decide) (by decide)
theorem x_adjust (h : y_V M L n N B c) (hcn : c < 99999) (hy : y < 10000000) (hw : w = 21) : y_A (m_E 111 48 [some (.ref (m_lc 1 0 0)), some (.ref (m_lc 16 0 0)), some (.ref (m_lc 17 0 0)), some (.ref (m_lc 18 0 0)), some (.ref (m_lc 19 0 0)), some (.int z), some (.int (nI y)), some (.int (nI w)), some (.int (nI d)), none, none] [] M) L c := by
  subst hw
  have r : nI y - nI y / 101 * 101 = nI (y % 101) := nI_remd (b := 101) (by omega) (by decide) (by decide)
  have hb := i_50 (y % 101) (Nat.mod_lt _ (by decide))
  generalize hv : nI (y % 101) - 50 = v at hb
  have f : ∀ a b c' k, (a < 16 ∨ 19 < a) → m_set (m_set M 16 0 0 6 v) 16 0 0 7 0 a b c' k = M a b c' k := fun a b c' k hh => by rw [m_set_n (by omega), m_set_n (by omega)]
  have hW := y_V1 h f
  have h8 : M 7 0 0 8 = M 16 0 0 6 := by
    have := h.1.2.2.1.1.2.2.1.2.1
    rw [y_16 (by decide)] at this
    exact this
  have e := a_adjust (y_fI hW) v
  rw [if_neg (by rw [hb]; decide), f _ _ _ _ (by omega), h8] at e
  have u := u_adjust _ e
  have hT := y_adjust (y_sv hW) (v := v) (f_bw_1 hb)
  have hK : y_K (m_set (m_set M 16 0 0 6 v) 16 0 0 7 0) = m_set (m_set (y_K M) 16 0 0 6 v) 16 0 0 7 0 := by rw [y_s16 (by decide), y_s16 (by decide)]
  rw [← hK] at hT
  have hF : y_f (y_K (m_set (m_set M 16 0 0 6 v) 16 0 0 7 0)) := by
    rw [hK]
    exact y_f_o h.2.1 (fun q j hq hj => by rw [m_set_n (by omega), m_set_n (by omega)])
  have hfin := y_fin h f hT hF (y_svf (fun a b c' k hh => by rw [m_set_n (by omega), m_set_n (by omega)]))
  refine ⟨_, _, ?_, hfin, Nat.le_succ _⟩
  have g6 : m_set (m_set M 16 0 0 6 v) 16 0 0 7 0 16 0 0 6 = v := by rw [m_set_n (by omega), m_set_i]
  simp only [eL_acts_48, eL_acts_50, eL_acts_51, eL_acts_140, eL_acts_142, eL_acts_144, eL_acts_188, eL_acts_190, eL_acts_192, eL_acts_252, eL_acts_254, eL_acts_256, (by decide : (3 : Int32) ≤ nI 21), (by decide : (8 : Int32) ≤ nI 21), (by decide : (16 : Int32) ≤ nI 21), (by decide : (20 : Int32) ≤ nI 21), if_true]
  simp only [eL_acts_315, eL_acts_317, eL_acts_319, eL_acts_345, eL_acts_347, eL_acts_349, (by decide : ¬ nI 21 = 20), (by decide : nI 21 = 21), (by decide : ¬ (21 : Int32) = 20), if_true, if_false]
  by_cases hs : M 16 0 0 6 < 0
  · have hs2 : ¬ 0 ≤ M 16 0 0 6 := Int32.not_le.mpr hs
    rw [if_pos hs] at u
    simp only [eL_acts_352, eL_acts_353, eL_acts_355, eL_acts_356, eL_acts_358, eL_acts_359, eL_acts_361, eL_acts_363, eL_acts_365, eL_acts_366, eL_acts_368, eL_acts_369, eL_acts_370, eL_acts_371, eL_acts_373, eL_acts_374, eL_acts_375, eL_acts_376, eL_acts_377, eL_acts_379, eL_acts_380, r, hv, g6, u, m_cE_i, m_kill, (by decide : ¬ (101 : Int32) = 0), not_false_eq_true]
    simp only [eL_acts_383, eL_acts_385, eL_acts_388, eL_acts_390, eL_acts_391, eL_acts_394, eL_acts_396, eL_acts_399, eL_acts_400, eL_acts_403, eL_acts_404, hs2, m_nok11, if_true, if_false]
  · have hs2 : 0 ≤ M 16 0 0 6 := Int32.not_lt.mp hs
    rw [if_neg hs] at u
    simp only [eL_acts_352, eL_acts_353, eL_acts_355, eL_acts_356, eL_acts_358, eL_acts_359, eL_acts_361, eL_acts_363, eL_acts_365, eL_acts_366, eL_acts_368, eL_acts_369, eL_acts_370, eL_acts_371, eL_acts_373, eL_acts_374, eL_acts_375, eL_acts_376, eL_acts_377, eL_acts_379, eL_acts_380, r, hv, g6, u, m_cE_i, m_kill, (by decide : ¬ (101 : Int32) = 0), not_false_eq_true]
    simp only [eL_acts_383, eL_acts_385, eL_acts_388, eL_acts_390, eL_acts_391, eL_acts_394, eL_acts_396, eL_acts_399, eL_acts_400, eL_acts_403, eL_acts_404, hs2, m_nok11, if_true]
theorem x_leave (h : y_V M L n N B c) (hcn : c < 99999) (hd : d < 16) (hw : w = 24) : y_A (m_E 111 48 [some (.ref (m_lc 1 0 0)), some (.ref (m_lc 16 0 0)), some (.ref (m_lc 17 0 0)), some (.ref (m_lc 18 0 0)), some (.ref (m_lc 19 0 0)), some (.int z), some (.int (nI y)), some (.int (nI w)), some (.int (nI d)), none, none] [] M) L c := by
  subst hw
  obtain ⟨hN, hN8, hB, hB12, h75⟩ := y_N h
  have hC := h.1.2.2.1
  have cc := y_cnt h (by omega)
  unfold y_A
  simp only [eL_acts_48, eL_acts_50, eL_acts_51, eL_acts_140, eL_acts_142, eL_acts_144, eL_acts_188, eL_acts_190, eL_acts_192, eL_acts_252, eL_acts_254, eL_acts_256, (by decide : (3 : Int32) ≤ nI 24), (by decide : (8 : Int32) ≤ nI 24), (by decide : (16 : Int32) ≤ nI 24), (by decide : (20 : Int32) ≤ nI 24), if_true]
  simp only [eL_acts_315, eL_acts_317, eL_acts_319, eL_acts_345, eL_acts_347, eL_acts_349, eL_acts_405, eL_acts_407, eL_acts_409, eL_acts_459, eL_acts_461, eL_acts_463, (by decide : ¬ nI 24 = 20), (by decide : ¬ nI 24 = 21), (by decide : (24 : Int32) ≤ nI 24), (by decide : nI 24 = 24), (by decide : ¬ (24 : Int32) = 20), (by decide : ¬ (24 : Int32) = 21), (by decide : (24 : Int32) ≤ 24), if_true, if_false]
  by_cases h1 : N ≤ d
  · have n1 : ¬ nI d < nI N := nI_nlt h1 (by omega)
    have e := a_leave (y_fI h.1) hC.2.2.2.2.1.2 (nI d)
    rw [if_pos (y_has0 (by omega) h1 _ h75)] at e
    have u := u_leave_O _ e cc
    refine ⟨_, _, ?_, ⟨n, N, B, y_bump h⟩, Nat.le_refl _⟩
    simp only [eL_acts_466, eL_acts_468, eL_acts_469, eL_acts_470, eL_acts_471, eL_acts_474, eL_acts_475, eL_acts_477, eL_acts_480, eL_acts_482, eL_acts_485, eL_acts_486, eL_acts_489, eL_acts_490, hN, n1, u, m_cE_i, m_nok11, if_true, if_false]
  · have n1 : nI d < nI N := nI_lt (by omega) (by omega)
    have hd8 : d < N := by omega
    have b2 : 8 * d + 2 < 64 := by omega
    have hh := y_has1 (N := N) hN8 hd8 _ h75
    have cd : (nI d).toNatClampNeg = d := nI_clamp (by omega)
    have w1 := (z_own hC hd8).2
    rw [y_17 (by omega) (by decide)] at w1
    by_cases h2 : M 17 0 0 (8 * d + 2) < 0
    · have h3 : ¬ 0 ≤ M 17 0 0 (8 * d + 2) := Int32.not_le.mpr h2
      have e := a_leave (y_fI h.1) hC.2.2.2.2.1.2 (nI d)
      rw [if_neg (by rw [hh]; decide), cd, if_pos (w1.mp h2)] at e
      have u := u_leave_S _ e cc
      refine ⟨_, _, ?_, ⟨n, N, B, y_bump h⟩, Nat.le_refl _⟩
      simp only [eL_acts_466, eL_acts_468, eL_acts_469, eL_acts_470, eL_acts_471, eL_acts_474, eL_acts_475, eL_acts_477, eL_acts_480, eL_acts_482, eL_acts_485, eL_acts_486, eL_acts_489, eL_acts_490, eL_acts_491, eL_acts_492, eL_acts_494, eL_acts_496, eL_acts_497, eL_acts_498, eL_acts_499, eL_acts_500, eL_acts_502, eL_acts_504, hN, n1, b2, g_x8, i_p2, h2, m_kill, if_true]
      simp only [eL_acts_537, eL_acts_538, eL_acts_540, eL_acts_543, eL_acts_545, eL_acts_548, eL_acts_550, eL_acts_553, eL_acts_555, eL_acts_558, eL_acts_559, eL_acts_562, eL_acts_563, h3, u, m_cE_i, m_nok11, if_true, if_false]
    · have z1 : ¬ M 12 0 d 2 = -1 := fun z => h2 (w1.mpr z)
      obtain ⟨q, hq, ho, hw⟩ := (hC.2.2.2.2.1.2 d hd8).resolve_left z1
      have eo : M 17 0 0 (8 * d + 2) = nI q := by
        rw [← ho, hC.2.1.1 d hd8 2 (by decide), y_17 (by omega) (by decide)]
      have cq : (nI q).toNatClampNeg = q := nI_clamp (by omega)
      have f : ∀ a b c' k, (a < 16 ∨ 19 < a) → l_fr M d q a b c' k = M a b c' k := fun a b c' k hh => by unfold l_fr; simp (disch := omega) only [m_set_n]
      have hW := y_V1 h f
      have e := a_leave (y_fI hW) hW.2.2.1.2.2.2.2.1.2 (nI d)
      rw [f _ _ _ _ (by omega), hh, if_neg (by decide), cd, f _ _ _ _ (by omega), if_neg z1, ho, cq] at e
      have u := u_leave _ e
      have hT := y_free (y_sv hW) hd8 hq (by rw [f_sv_o _ _ _ _ _ _ (by decide) (by decide) (by decide), f _ _ _ _ (by omega)]; exact hw)
      have hK := y_fr (M := M) (d := d) (q := q) (by omega) hq
      rw [← hK] at hT
      have hfin := y_fin h f hT (by rw [hK]; exact y_f_fr h.2.1 (by omega) hq) (y_svf (fun a b c' k hh => w_take hh))
      refine ⟨_, _, ?_, hfin, Nat.le_succ _⟩
      have c1 : 6 * q + 1 < 60 := by omega
      have c2 : 6 * q + 2 < 60 := by omega
      have q0 : ¬ nI q < 0 := nI_pos (by omega)
      have q1 : 0 ≤ nI q := nI_pos' (by omega)
      have el : m_set (m_set (m_set M 17 0 0 (8 * d + 2) (-1)) 18 0 0 (6 * q + 1) (-1)) 18 0 0 (6 * q + 2) 0 = l_fr M d q := rfl
      simp only [eL_acts_466, eL_acts_468, eL_acts_469, eL_acts_470, eL_acts_471, eL_acts_474, eL_acts_475, eL_acts_477, eL_acts_480, eL_acts_482, eL_acts_485, eL_acts_486, eL_acts_489, eL_acts_490, eL_acts_491, eL_acts_492, eL_acts_494, eL_acts_496, eL_acts_497, eL_acts_498, eL_acts_499, eL_acts_500, eL_acts_502, eL_acts_504, hN, n1, b2, g_x8, i_p2, eo, q0, m_kill, if_true, if_false]
      simp only [eL_acts_507, eL_acts_508, eL_acts_510, eL_acts_512, eL_acts_513, eL_acts_514, eL_acts_515, eL_acts_516, eL_acts_517, eL_acts_518, eL_acts_520, eL_acts_522, eL_acts_523, eL_acts_524, eL_acts_525, eL_acts_526, eL_acts_527, eL_acts_528, eL_acts_530, eL_acts_532, eL_acts_533, eL_acts_534, eL_acts_535, eL_acts_536, b2, c1, c2, g_x8, g_x6, i_p2, nI_1, el]
      simp only [eL_acts_537, eL_acts_538, eL_acts_540, eL_acts_543, eL_acts_545, eL_acts_548, eL_acts_550, eL_acts_553, eL_acts_555, eL_acts_558, eL_acts_559, eL_acts_562, eL_acts_563, q1, u, m_cE_i, m_nok11, if_true]
theorem x_vein (h : y_V M L n N B c) (hcn : c < 99999) (hy : y < 10000000) (hw : w = 25) : y_A (m_E 111 48 [some (.ref (m_lc 1 0 0)), some (.ref (m_lc 16 0 0)), some (.ref (m_lc 17 0 0)), some (.ref (m_lc 18 0 0)), some (.ref (m_lc 19 0 0)), some (.int z), some (.int (nI y)), some (.int (nI w)), some (.int (nI d)), none, none] [] M) L c := by
  subst hw
  have hC := h.1.2.2.1
  have q10 : nI y / 10 = nI (y / 10) := nI_quo (b := 10) (by omega) (by decide) (by decide)
  have r10 : nI y - nI (y / 10) * 10 = nI (y % 10) := by
    rw [← q10]
    exact nI_remd (b := 10) (by omega) (by decide) (by decide)
  have r501 : nI (y / 10) - nI (y / 10) / 501 * 501 = nI (y / 10 % 501) := nI_remd (b := 501) (by omega) (by decide) (by decide)
  have e500 : (500 : Int32) + nI (y / 10 % 501) = nI (500 + y / 10 % 501) := nI_add 500 _
  have hv1 : 500 + y / 10 % 501 ≤ 1000 := by omega
  have hq : y % 10 < 10 := by omega
  generalize hgv : 500 + y / 10 % 501 = v at hv1 e500
  have hv0 : 500 ≤ v := by omega
  generalize y % 10 = q at hq r10
  have b0 : 6 * q < 60 := by omega
  have hb1 : f_bw (nI q) 0 9 = 1 := y_bw (l := 0) (u := 9) (by omega) (by omega) (by decide)
  have hb2 : f_bw (nI v) 500 1000 = 1 := y_bw (l := 500) (u := 1000) hv0 hv1 (by decide)
  have cq : (nI q).toNatClampNeg = q := nI_clamp (by omega)
  have f : ∀ a b c' k, (a < 16 ∨ 19 < a) → m_set M 18 0 0 (6 * q) (nI v) a b c' k = M a b c' k := fun a b c' k hh => by rw [m_set_n (by omega)]
  have hW := y_V1 h f
  have e := a_vein (y_fI hW) (nI q) (nI v)
  have ew : M 13 0 q 0 = M 18 0 0 (6 * q) := by
    rw [(hC.2.2.1 q hq).1]
    exact y_180 hq
  rw [if_neg (by rw [hb1]; decide), if_neg (by rw [hb2]; decide), cq, f _ _ _ _ (by omega), ew] at e
  have u := u_vein _ _ e
  have hT := y_vein (y_sv hW) (c := q) (f := nI v) hq (f_bw_1 hb2)
  have hK : y_K (m_set M 18 0 0 (6 * q) (nI v)) = m_set (y_K M) 16 0 0 (77 + 6 * q + 0) (nI v) := y_s180 hq
  rw [← hK] at hT
  have hF : y_f (y_K (m_set M 18 0 0 (6 * q) (nI v))) := by
    rw [hK]
    exact y_f_o h.2.1 (fun q' j hq hj => by rw [m_set_n (by omega)])
  have hfin := y_fin h f hT hF (y_svf (fun a b c' k hh => by rw [m_set_n (by omega)]))
  refine ⟨_, _, ?_, hfin, Nat.le_succ _⟩
  have g0 : m_set M 18 0 0 (6 * q) (nI v) 18 0 0 (6 * q) = nI v := m_set_i
  simp only [eL_acts_48, eL_acts_50, eL_acts_51, eL_acts_140, eL_acts_142, eL_acts_144, eL_acts_188, eL_acts_190, eL_acts_192, eL_acts_252, eL_acts_254, eL_acts_256, (by decide : (3 : Int32) ≤ nI 25), (by decide : (8 : Int32) ≤ nI 25), (by decide : (16 : Int32) ≤ nI 25), (by decide : (20 : Int32) ≤ nI 25), if_true]
  simp only [eL_acts_315, eL_acts_317, eL_acts_319, eL_acts_345, eL_acts_347, eL_acts_349, eL_acts_405, eL_acts_407, eL_acts_409, eL_acts_459, eL_acts_461, eL_acts_463, eL_acts_564, eL_acts_566, eL_acts_568, (by decide : ¬ nI 25 = 20), (by decide : ¬ nI 25 = 21), (by decide : (24 : Int32) ≤ nI 25), (by decide : ¬ nI 25 = 24), (by decide : nI 25 = 25), (by decide : ¬ (25 : Int32) = 20), (by decide : ¬ (25 : Int32) = 21), (by decide : ¬ (25 : Int32) = 24), (by decide : (24 : Int32) ≤ 25), if_true, if_false]
  simp only [eL_acts_571, eL_acts_573, eL_acts_575, eL_acts_576, eL_acts_578, eL_acts_579, eL_acts_581, eL_acts_583, eL_acts_584, eL_acts_585, eL_acts_587, eL_acts_588, eL_acts_590, eL_acts_592, eL_acts_593, eL_acts_596, eL_acts_598, eL_acts_600, eL_acts_601, eL_acts_604, eL_acts_605, eL_acts_606, eL_acts_607, eL_acts_608, eL_acts_610, eL_acts_611, eL_acts_613, eL_acts_615, eL_acts_616, eL_acts_617, q10, r10, r501, e500, b0, g_x6, g0, u, m_cE_i, m_kill, (by decide : ¬ (10 : Int32) = 0), (by decide : ¬ (501 : Int32) = 0), not_false_eq_true]
  simp only [eL_acts_620, eL_acts_622, eL_acts_625, eL_acts_626, eL_acts_629, eL_acts_630, m_nok11, if_true]
theorem x_set_t (h : y_V M L n N B c) (hcn : c < 99999) {t v : Nat} (ht : t < 5) (hv : f_bw (nI v) (m_s24 t) (m_s25 t) = 1) (v6 v7 v8 : Int32) : y_A (m_E 111 776 [some (.ref (m_lc 1 0 0)), some (.ref (m_lc 16 0 0)), some (.ref (m_lc 17 0 0)), some (.ref (m_lc 18 0 0)), some (.ref (m_lc 19 0 0)), some (.int z), some (.int v6), some (.int v7), some (.int v8), some (.int (nI t)), some (.int (M 16 0 0 (8 + t)))] [.int (nI v), .int (nI (8 + t)), .ref (m_lc 16 0 0)] M) L c := by
  have hC := h.1.2.2.1
  have bt : 8 + t < 13 := by omega
  have ct : (nI t).toNatClampNeg = t := nI_clamp (by omega)
  have hb1 : f_bw (nI t) 0 4 = 1 := y_bw (l := 0) (u := 4) (by omega) (by omega) (by decide)
  have f : ∀ a b c' k, (a < 16 ∨ 19 < a) → m_set M 16 0 0 (8 + t) (nI v) a b c' k = M a b c' k := fun a b c' k hh => by rw [m_set_n (by omega)]
  have hW := y_V1 h f
  have hs : M 11 0 0 t = M 16 0 0 (8 + t) := by
    rw [← y_16 (M := M) bt]
    obtain ⟨s0, s1, s2, s3, s4⟩ := hC.1.2.2.2.2
    have ht : t = 0 ∨ t = 1 ∨ t = 2 ∨ t = 3 ∨ t = 4 := by omega
    rcases ht with rfl | rfl | rfl | rfl | rfl
    · exact s0
    · exact s1
    · exact s2
    · exact s3
    · exact s4
  have e := a_set (y_fI hW) hW.2.2.2.2.1 hW.2.2.2.2.2 (nI t) (nI v)
  rw [if_neg (by rw [hb1]; decide), ct, if_neg (by rw [hv]; decide), f _ _ _ _ (by omega), hs] at e
  have u := u_set _ _ e
  have hT := y_set (y_sv hW) (t := t) (v := nI v) ht (f_bw_1 hv)
  have hK : y_K (m_set M 16 0 0 (8 + t) (nI v)) = m_set (y_K M) 16 0 0 (8 + t) (nI v) := y_s16 bt
  rw [← hK] at hT
  have hF : y_f (y_K (m_set M 16 0 0 (8 + t) (nI v))) := by
    rw [hK]
    exact y_f_o h.2.1 (fun q' j hq hj => by rw [m_set_n (by omega)])
  have hfin := y_fin h f hT hF (y_svf (fun a b c' k hh => by rw [m_set_n (by omega)]))
  refine ⟨_, _, ?_, hfin, Nat.le_succ _⟩
  have g0 : m_set M 16 0 0 (8 + t) (nI v) 16 0 0 (8 + t) = nI v := m_set_i
  simp only [eL_acts_776, eL_acts_777, eL_acts_778, eL_acts_780, eL_acts_781, eL_acts_783, eL_acts_785, eL_acts_786, eL_acts_787, bt, g_a8, g0, u, m_cE_i]
  simp only [eL_acts_790, eL_acts_792, eL_acts_795, eL_acts_796, eL_acts_799, eL_acts_800, m_nok11, if_true]
end ARMS
