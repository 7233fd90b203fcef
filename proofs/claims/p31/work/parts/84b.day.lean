/-! A DAY IS LIVED: the orders typed and summed, one after the other. -/
def v_kd (v : Nat) : Nat := if v / 8 % 8 < 3 then 119 else if v / 8 % 8 = 3 then 99 else if v / 8 % 8 < 6 then 103 else if v / 8 % 8 = 6 then 109 else 110
def v_og (v : Nat) : Nat := if v / 8 % 8 < 3 then 1 + v / 5 % 9999 else if v / 8 % 8 = 3 then v / 3 % 10 else 1 + v / 7 % 3000
def v_B (K : m_Mem) : Nat := (K 16 0 0 5).toNatClampNeg
def v_r (K : m_Mem) (v : Nat) : Int32 × m_Mem := k_do K (v_B K) (nI (v_kd v)) (nI (v % 8)) (nI (v_og v))
/-- after k orders: does it go on (1), how many are done, the row -/
def v_st (y : Nat) (K : m_Mem) : Nat → Nat × Nat × m_Mem
  | 0 => (1, 0, K)
  | k + 1 => if (v_st y K k).1 = 1 then (if (v_r (v_st y K k).2.2 (y / (1 + 2 * k))).1 = 1 then (1, k + 1, (v_r (v_st y K k).2.2 (y / (1 + 2 * k))).2) else (0, k, (v_st y K k).2.2)) else v_st y K k
section DAY2
variable {M M0 K C Q : m_Mem} {n N B : Nat}
theorem v_st_1 (y : Nat) (K : m_Mem) : ∀ k, ((v_st y K k).1 = 1 ∧ (v_st y K k).2.1 = k) ∨ (v_st y K k).1 = 0
  | 0 => Or.inl ⟨rfl, rfl⟩
  | k + 1 => by
    rw [v_st]
    rcases v_st_1 y K k with ⟨h, -⟩ | h
    · rw [if_pos h]
      split
      · exact Or.inl ⟨rfl, rfl⟩
      · exact Or.inr rfl
    · rw [if_neg (by rw [h]; decide)]
      exact Or.inr h
theorem v_st_fz (y : Nat) (K : m_Mem) {i : Nat} (h : (v_st y K i).1 = 0) : ∀ j, v_st y K (i + j) = v_st y K i
  | 0 => rfl
  | j + 1 => by
    have := v_st_fz y K h j
    show v_st y K ((i + j) + 1) = _
    rw [v_st, if_neg (by rw [this, h]; decide), this]
theorem v_B_e (h : y_W C K n N B) : v_B K = B := by
  unfold v_B
  rw [h.2.2.1.1.2.1.2.2]
  exact nI_clamp (by have := h.2.2.1.1.2.1.1; omega)
theorem v_kd_c (v : Nat) : (v_kd v = 119 ∧ v / 8 % 8 < 3 ∧ v_og v = 1 + v / 5 % 9999) ∨ (v_kd v = 99 ∧ v / 8 % 8 = 3 ∧ v_og v = v / 3 % 10) ∨ (v_kd v = 103 ∧ 3 < v / 8 % 8 ∧ v / 8 % 8 < 6 ∧ v_og v = 1 + v / 7 % 3000) ∨ (v_kd v = 109 ∧ v / 8 % 8 = 6) ∨ (v_kd v = 110 ∧ v / 8 % 8 = 7) := by
  unfold v_kd v_og
  by_cases h1 : v / 8 % 8 < 3
  · rw [if_pos h1, if_pos h1]
    exact Or.inl ⟨rfl, h1, rfl⟩
  · rw [if_neg h1, if_neg h1]
    by_cases h2 : v / 8 % 8 = 3
    · rw [if_pos h2, if_pos h2]
      exact Or.inr (Or.inl ⟨rfl, h2, rfl⟩)
    · rw [if_neg h2, if_neg h2]
      by_cases h3 : v / 8 % 8 < 6
      · rw [if_pos h3]
        exact Or.inr (Or.inr (Or.inl ⟨rfl, by omega, h3, rfl⟩))
      · rw [if_neg h3]
        by_cases h4 : v / 8 % 8 = 6
        · rw [if_pos h4]
          exact Or.inr (Or.inr (Or.inr (Or.inl ⟨rfl, h4⟩)))
        · rw [if_neg h4]
          exact Or.inr (Or.inr (Or.inr (Or.inr ⟨rfl, by omega⟩)))
/-- the class does the order as the row does -/
theorem d_all (h : y_W C K n N B) (v : Nat) (d g : Int32) (hdg : (v_kd v = 109 ∨ v_kd v = 110) ∨ (d = nI (v % 8) ∧ g = nI (v_og v))) : d_do C K (nI (v_kd v)) d g (nI (v % 8)) (nI (v_og v)) n N B := by
  rcases v_kd_c v with ⟨q, -⟩ | ⟨q, -⟩ | ⟨q, -⟩ | ⟨q, -⟩ | ⟨q, -⟩
  · obtain ⟨rfl, rfl⟩ := hdg.resolve_left (by rw [q]; decide)
    rw [q]
    exact d_w h _ _
  · obtain ⟨rfl, rfl⟩ := hdg.resolve_left (by rw [q]; decide)
    rw [q]
    exact d_c h _ _
  · obtain ⟨rfl, rfl⟩ := hdg.resolve_left (by rw [q]; decide)
    rw [q]
    exact d_g h _ _
  · rw [q]
    exact d_m h _ _ _ _
  · rw [q]
    exact d_n h _ _ _ _
theorem v_r_c (h : y_W C K n N B) (v : Nat) : ((v_r K v).1 = 1 ∧ ∃ C' B', y_W C' (v_r K v).2 n N B') ∨ ((v_r K v).1 = 0 ∧ (v_r K v).2 = K) := by
  obtain ⟨x, M2, -, e2, e3⟩ := d_all h v (nI (v % 8)) (nI (v_og v)) (Or.inr ⟨rfl, rfl⟩)
  unfold v_r
  rw [v_B_e h]
  rcases e3 with ⟨rfl, ⟨B', hW⟩, -⟩ | ⟨rfl, -, e⟩
  · exact Or.inl ⟨e2, M2, B', hW⟩
  · exact Or.inr ⟨e2, e⟩
/-- a turn's end -/
theorem l_tC (x g k : Nat) (hg : g = 0 ∨ g = 1) (t : Int32) (v5 v6 v7 : Int32) (w1 w2 w3 : Int32) (w5 : Option Value) :
    m_E 110 363 [some (.ref (m_lc 1 0 0)), some (.ref (m_lc 16 0 0)), some (.ref (m_lc 17 0 0)), some (.ref (m_lc 18 0 0)), some (.ref (m_lc 19 0 0)), some (.int v5), some (.int v6), some (.int v7), some (.int (nI x)), some (.int (nI g)), some (.int (nI k)), some (.int w1), some (.int w2), some (.int w3), some (.int t), w5] [] M =
    m_E 110 32 [some (.ref (m_lc 1 0 0)), some (.ref (m_lc 16 0 0)), some (.ref (m_lc 17 0 0)), some (.ref (m_lc 18 0 0)), some (.ref (m_lc 19 0 0)), some (.int v5), some (.int v6), some (.int v7), some (.int (nI (x + if g = 1 ∧ 0 ≤ t then 1 else 0))), some (.int (nI (if g = 1 ∧ 0 ≤ t then 1 else 0))), some (.int (nI (k + 1))), some (.int w1), some (.int w2), some (.int w3), some (.int t), w5] [] M := by
  rcases hg with rfl | rfl
  · rw [if_neg (fun q => absurd q.1 (by decide))]
    simp only [eL_lives_363, eL_lives_365, (by decide : nI 0 = 0), if_true]
    simp only [eL_lives_377, eL_lives_378, eL_lives_380, eL_lives_382, eL_lives_384, eL_lives_387, eL_lives_388, eL_lives_391, eL_lives_392, eL_lives_393, eL_lives_395, eL_lives_398, m_kill, nI_1, (by decide : nI 0 = 0), Int32.add_zero, Nat.add_zero, if_true]
  · by_cases h : 0 ≤ t
    · have h2 : ¬ t < 0 := Int32.not_lt.mpr h
      rw [if_pos ⟨rfl, h⟩]
      simp only [eL_lives_363, eL_lives_365, eL_lives_368, eL_lives_370, eL_lives_373, eL_lives_374, h2, (by decide : nI 1 = 1), (by decide : ¬ (1 : Int32) = 0), if_false]
      simp only [eL_lives_378, eL_lives_380, eL_lives_382, eL_lives_384, eL_lives_387, eL_lives_388, eL_lives_391, eL_lives_392, eL_lives_393, eL_lives_395, eL_lives_398, m_kill, nI_1, (by decide : nI 1 = 1), (by decide : ¬ (1 : Int32) = 0), if_false]
    · have h2 : t < 0 := Int32.not_le.mp h
      rw [if_neg (fun q => h q.2)]
      simp only [eL_lives_363, eL_lives_365, eL_lives_368, eL_lives_370, h2, (by decide : nI 1 = 1), (by decide : ¬ (1 : Int32) = 0), if_true, if_false]
      simp only [eL_lives_377, eL_lives_378, eL_lives_380, eL_lives_382, eL_lives_384, eL_lives_387, eL_lives_388, eL_lives_391, eL_lives_392, eL_lives_393, eL_lives_395, eL_lives_398, m_kill, nI_1, (by decide : nI 0 = 0), Int32.add_zero, Nat.add_zero, if_true]
/-- what a turn's middle gives: the number told, the text, the row -/
def y_Md (M M3 K : m_Mem) (a g v : Nat) (t : Int32) : Prop := ∃ e, M3 5 0 0 1 = nI e ∧ e ≤ a + 6 ∧ (∀ i, i < a → M3 6 0 0 i = M 6 0 0 i) ∧ y_O (M3 6 0 0) a e (v_kd v) (v % 8) (v_og v) ∧
  (∀ x b c i, (x < 16 ∨ 19 < x) → x ≠ 6 → ¬ (x = 5 ∧ i = 1) → M3 x b c i = M x b c i) ∧ ((∀ i, i < 60 → m_nok 2 (M 6 0 0 i) = true) → ∀ i, i < 60 → m_nok 2 (M3 6 0 0 i) = true) ∧
  (g = 1 → ((0 ≤ t ∧ (v_r K v).1 = 1 ∧ y_K M3 = (v_r K v).2) ∨ (t < 0 ∧ (v_r K v).1 = 0 ∧ y_K M3 = K))) ∧ (g = 0 → y_K M3 = K) ∧ y_f (y_K M3)
theorem y_Md_L {M M2 M3 : m_Mem} {a e v : Nat} {t : Int32} (hG : y_G M M2 a e) (he : e ≤ a + 6) (hO : y_O (M2 6 0 0) a e (v_kd v) (v % 8) (v_og v)) (hr : (0 ≤ t ∧ (v_r K v).1 = 1) ∨ (t < 0 ∧ (v_r K v).1 = 0 ∧ (v_r K v).2 = K)) (hK : y_K M3 = (v_r K v).2) (hf : y_f (v_r K v).2) (fr : ∀ a b c k, (a < 16 ∨ 19 < a) → M3 a b c k = M2 a b c k) : y_Md M M3 K a 1 v t := by
  obtain ⟨g1, g2, g3, g4, g5, g6⟩ := hG
  have e6 : M3 6 0 0 = M2 6 0 0 := by
    funext i
    exact fr _ _ _ _ (by omega)
  refine ⟨e, by rw [fr _ _ _ _ (by omega)]; exact g1, he, fun i hi => by rw [e6]; exact g4 i hi, by rw [e6]; exact hO, fun x b c i q1 q2 q3 => by rw [fr _ _ _ _ q1]; exact g5 _ _ _ _ q2 q3, fun q i hi => by rw [e6]; exact g6 q i hi, fun _ => ?_, fun q => absurd q (by decide), by rw [hK]; exact hf⟩
  rcases hr with ⟨h1, h2⟩ | ⟨h1, h2, h3⟩
  · exact Or.inl ⟨h1, h2, hK⟩
  · exact Or.inr ⟨h1, h2, hK.trans h3⟩
theorem y_Md_0 {M M2 : m_Mem} {a e v : Nat} {t : Int32} (hG : y_G M M2 a e) (he : e ≤ a + 6) (hO : y_O (M2 6 0 0) a e (v_kd v) (v % 8) (v_og v)) (hK : y_K M2 = K) (hf : y_f K) : y_Md M M2 K a 0 v t := by
  obtain ⟨g1, g2, g3, g4, g5, g6⟩ := hG
  exact ⟨e, g1, he, g4, hO, fun x b c i _ q2 q3 => g5 _ _ _ _ q2 q3, g6, fun q => absurd q (by decide), fun _ => hK, by rw [hK]; exact hf⟩
theorem y_G_K {M M2 : m_Mem} {a e : Nat} (hG : y_G M M2 a e) : y_K M2 = y_K M := y_cg (fun a b c k _ _ => hG.2.2.2.2.1 _ _ _ _ (by omega) (by omega))
/-- a turn's middle: an order is typed and, if it goes on, summed -/
theorem l_tB (h : y_W C K n N B) (hK : y_K M = K) (hf : y_f K) (v : Nat) (hv : v < 10000000) (a g : Nat) (ha : a + 6 ≤ 60) (h5 : M 5 0 0 1 = nI a) (hg : g = 0 ∨ g = 1) (y5 m8 x8 k10 : Int32) (w4 : Int32) (w5 : Option Value) : ∃ t M3 w5',
    m_E 110 96 [some (.ref (m_lc 1 0 0)), some (.ref (m_lc 16 0 0)), some (.ref (m_lc 17 0 0)), some (.ref (m_lc 18 0 0)), some (.ref (m_lc 19 0 0)), some (.int y5), some (.int 1), some (.int m8), some (.int x8), some (.int (nI g)), some (.int k10), some (.int (nI v)), some (.int (nI (v % 8))), some (.int (nI (v / 8 % 8))), some (.int w4), w5] [] M =
    m_E 110 363 [some (.ref (m_lc 1 0 0)), some (.ref (m_lc 16 0 0)), some (.ref (m_lc 17 0 0)), some (.ref (m_lc 18 0 0)), some (.ref (m_lc 19 0 0)), some (.int y5), some (.int 1), some (.int m8), some (.int x8), some (.int (nI g)), some (.int k10), some (.int (nI v)), some (.int (nI (v % 8))), some (.int (nI (v / 8 % 8))), some (.int t), w5'] [] M3 ∧ y_Md M M3 K a g v t := by
  have hs : v / 8 % 8 < 8 := Nat.mod_lt _ (by decide)
  have hd : v % 8 < 8 := Nat.mod_lt _ (by decide)
  have hB := v_B_e h
  have n1 : ¬ (1 : Int32) = 0 := by decide
  have g0 : nI 0 = 0 := rfl
  have g1 : nI 1 = 1 := rfl
  rcases v_kd_c v with ⟨q, s1, q2⟩ | ⟨q, s1, q2⟩ | ⟨q, s1, s2, q2⟩ | ⟨q, s1⟩ | ⟨q, s1⟩
  · have z3 : ¬ (3 : Int32) ≤ nI (v / 8 % 8) := nI_ge (b := 3) s1 (by decide)
    have q5 : nI v / 5 = nI (v / 5) := nI_quo (b := 5) (by omega) (by decide) (by decide)
    have r9 : nI (v / 5) - nI (v / 5) / 9999 * 9999 = nI (v / 5 % 9999) := nI_remd (b := 9999) (by omega) (by decide) (by decide)
    have e1 : (1 : Int32) + nI (v / 5 % 9999) = nI (1 + v / 5 % 9999) := nI_add 1 _
    rw [← q2] at e1
    have hgl : 1 ≤ v_og v ∧ v_og v ≤ 9999 := by
      have := Nat.mod_lt (v / 5) (show 0 < 9999 by decide)
      omega
    obtain ⟨e, M2, lt, hG, t1, t2, t3, t4, t5⟩ := l_types (M := M) (v % 8) 119 (v_og v) hd (by decide) (by omega) a ha h5
    have lt : m_cl 109 [.ref (m_lc 1 0 0), .int (nI (v % 8)), .int 119, .int (nI (v_og v))] M = some (.inl (some (.int 1)), M2) := lt
    have hO : y_O (M2 6 0 0) a e (v_kd v) (v % 8) (v_og v) := Or.inl ⟨Or.inl q, hd, hgl.1, t3, by rw [q]; exact t4, t5⟩
    have hK2 : y_K M2 = K := (y_G_K hG).trans hK
    rcases hg with rfl | rfl
    · refine ⟨-1, M2, some (.int (nI (v_og v))), ?_, y_Md_0 hG t2 hO hK2 hf⟩
      simp only [eL_lives_96, eL_lives_98, eL_lives_99, eL_lives_102, eL_lives_103, eL_lives_105, eL_lives_106, eL_lives_107, eL_lives_110, eL_lives_111, eL_lives_112, eL_lives_114, eL_lives_116, eL_lives_119, eL_lives_120, eL_lives_122, eL_lives_124, eL_lives_126, eL_lives_129, eL_lives_132, eL_lives_133, eL_lives_136, eL_lives_137, z3, q5, r9, e1, lt, n1, m_cE_i, m_kill, (by decide : ¬ (5 : Int32) = 0), (by decide : ¬ (9999 : Int32) = 0), not_false_eq_true, if_true, if_false]
      simp only [eL_lives_139, eL_lives_141, eL_lives_144, eL_lives_145, eL_lives_146, eL_lives_147, eL_lives_149, eL_lives_151, eL_lives_154, eL_lives_157, eL_lives_158, eL_lives_160, g0, m_kill, if_true]
    · obtain ⟨t, M3, l, hr, hk, hff, fr⟩ := o_w h hK2 hf (v % 8) (v_og v) hd hgl
      have er : k_do K B 119 (nI (v % 8)) (nI (v_og v)) = v_r K v := by
        unfold v_r
        rw [q, hB]
        rfl
      rw [er] at hr hk hff
      refine ⟨t, M3, some (.int (nI (v_og v))), ?_, y_Md_L hG t2 hO hr hk hff fr⟩
      simp only [eL_lives_96, eL_lives_98, eL_lives_99, eL_lives_102, eL_lives_103, eL_lives_105, eL_lives_106, eL_lives_107, eL_lives_110, eL_lives_111, eL_lives_112, eL_lives_114, eL_lives_116, eL_lives_119, eL_lives_120, eL_lives_122, eL_lives_124, eL_lives_126, eL_lives_129, eL_lives_132, eL_lives_133, eL_lives_136, eL_lives_137, z3, q5, r9, e1, lt, n1, m_cE_i, m_kill, (by decide : ¬ (5 : Int32) = 0), (by decide : ¬ (9999 : Int32) = 0), not_false_eq_true, if_true, if_false]
      simp only [eL_lives_139, eL_lives_141, eL_lives_144, eL_lives_145, eL_lives_146, eL_lives_147, eL_lives_149, eL_lives_151, eL_lives_154, eL_lives_157, eL_lives_158, eL_lives_160, g1, n1, l, m_cE_i, m_kill, if_false]
  · have z3 : (3 : Int32) ≤ nI (v / 8 % 8) := nI_le (a := 3) (by omega) (by omega)
    have z3e : nI (v / 8 % 8) = 3 := by rw [s1]; rfl
    have q3 : nI v / 3 = nI (v / 3) := nI_quo (b := 3) (by omega) (by decide) (by decide)
    have r10 : nI (v / 3) - nI (v / 3) / 10 * 10 = nI (v / 3 % 10) := nI_remd (b := 10) (by omega) (by decide) (by decide)
    rw [← q2] at r10
    have hgl : v_og v < 10 := by
      rw [q2]
      exact Nat.mod_lt _ (by decide)
    obtain ⟨e, M2, lt, hG, t1, t2, t3, t4, t5⟩ := l_types (M := M) (v % 8) 99 (v_og v) hd (by decide) (by omega) a ha h5
    have lt : m_cl 109 [.ref (m_lc 1 0 0), .int (nI (v % 8)), .int 99, .int (nI (v_og v))] M = some (.inl (some (.int 1)), M2) := lt
    have hO : y_O (M2 6 0 0) a e (v_kd v) (v % 8) (v_og v) := by
      rcases t5 with ⟨u1, u2, u3⟩ | ⟨u1, u2, -⟩ | ⟨u1, u2, -⟩ | ⟨u1, u2, -⟩
      · exact Or.inr (Or.inl ⟨q, hd, hgl, t3, t4, by omega, u3⟩)
      · omega
      · omega
      · omega
    have hK2 : y_K M2 = K := (y_G_K hG).trans hK
    rcases hg with rfl | rfl
    · refine ⟨-1, M2, w5, ?_, y_Md_0 hG t2 hO hK2 hf⟩
      simp only [eL_lives_96, eL_lives_98, eL_lives_99, eL_lives_163, eL_lives_165, eL_lives_166, z3, if_true]
      rw [if_pos z3e]
      simp only [eL_lives_169, eL_lives_171, eL_lives_174, eL_lives_175, eL_lives_177, eL_lives_179, eL_lives_181, eL_lives_182, eL_lives_183, eL_lives_185, eL_lives_186, eL_lives_189, eL_lives_192, eL_lives_193, eL_lives_196, eL_lives_197, q3, r10, lt, n1, m_cE_i, m_kill, (by decide : ¬ (3 : Int32) = 0), (by decide : ¬ (10 : Int32) = 0), not_false_eq_true, if_false]
      simp only [eL_lives_199, eL_lives_201, eL_lives_204, eL_lives_205, eL_lives_206, eL_lives_207, eL_lives_209, eL_lives_211, eL_lives_212, eL_lives_213, eL_lives_215, eL_lives_216, eL_lives_219, eL_lives_222, eL_lives_223, eL_lives_225, g0, m_kill, if_true]
    · obtain ⟨t, M3, l, hr, hk, hff, fr⟩ := o_c h hK2 hf (v % 8) (v_og v) hd hgl
      have er : k_do K B 99 (nI (v % 8)) (nI (v_og v)) = v_r K v := by
        unfold v_r
        rw [q, hB]
        rfl
      rw [er] at hr hk hff
      refine ⟨t, M3, w5, ?_, y_Md_L hG t2 hO hr hk hff fr⟩
      simp only [eL_lives_96, eL_lives_98, eL_lives_99, eL_lives_163, eL_lives_165, eL_lives_166, z3, if_true]
      rw [if_pos z3e]
      simp only [eL_lives_169, eL_lives_171, eL_lives_174, eL_lives_175, eL_lives_177, eL_lives_179, eL_lives_181, eL_lives_182, eL_lives_183, eL_lives_185, eL_lives_186, eL_lives_189, eL_lives_192, eL_lives_193, eL_lives_196, eL_lives_197, q3, r10, lt, n1, m_cE_i, m_kill, (by decide : ¬ (3 : Int32) = 0), (by decide : ¬ (10 : Int32) = 0), not_false_eq_true, if_false]
      simp only [eL_lives_199, eL_lives_201, eL_lives_204, eL_lives_205, eL_lives_206, eL_lives_207, eL_lives_209, eL_lives_211, eL_lives_212, eL_lives_213, eL_lives_215, eL_lives_216, eL_lives_219, eL_lives_222, eL_lives_223, eL_lives_225, g1, n1, q3, r10, l, m_cE_i, m_kill, (by decide : ¬ (3 : Int32) = 0), (by decide : ¬ (10 : Int32) = 0), not_false_eq_true, if_false]
  · have z3 : (3 : Int32) ≤ nI (v / 8 % 8) := nI_le (a := 3) (by omega) (by omega)
    have z3n : ¬ nI (v / 8 % 8) = 3 := fun z => by have := (nI_eq (b := 3) (by omega) (by decide)).mp z; omega
    have z6 : ¬ (6 : Int32) ≤ nI (v / 8 % 8) := nI_ge (b := 6) s2 (by decide)
    have q7 : nI v / 7 = nI (v / 7) := nI_quo (b := 7) (by omega) (by decide) (by decide)
    have r3 : nI (v / 7) - nI (v / 7) / 3000 * 3000 = nI (v / 7 % 3000) := nI_remd (b := 3000) (by omega) (by decide) (by decide)
    have e1 : (1 : Int32) + nI (v / 7 % 3000) = nI (1 + v / 7 % 3000) := nI_add 1 _
    rw [← q2] at e1
    have hgl : 1 ≤ v_og v ∧ v_og v ≤ 9999 := by
      have := Nat.mod_lt (v / 7) (show 0 < 3000 by decide)
      omega
    obtain ⟨e, M2, lt, hG, t1, t2, t3, t4, t5⟩ := l_types (M := M) (v % 8) 103 (v_og v) hd (by decide) (by omega) a ha h5
    have lt : m_cl 109 [.ref (m_lc 1 0 0), .int (nI (v % 8)), .int 103, .int (nI (v_og v))] M = some (.inl (some (.int 1)), M2) := lt
    have hO : y_O (M2 6 0 0) a e (v_kd v) (v % 8) (v_og v) := Or.inl ⟨Or.inr q, hd, hgl.1, t3, by rw [q]; exact t4, t5⟩
    have hK2 : y_K M2 = K := (y_G_K hG).trans hK
    rcases hg with rfl | rfl
    · refine ⟨-1, M2, some (.int (nI (v_og v))), ?_, y_Md_0 hG t2 hO hK2 hf⟩
      simp only [eL_lives_96, eL_lives_98, eL_lives_99, eL_lives_163, eL_lives_165, eL_lives_166, eL_lives_228, eL_lives_230, eL_lives_232, z3, z3n, z6, if_true, if_false]
      simp only [eL_lives_235, eL_lives_236, eL_lives_238, eL_lives_240, eL_lives_241, eL_lives_244, eL_lives_245, eL_lives_246, eL_lives_248, eL_lives_250, eL_lives_253, eL_lives_254, eL_lives_256, eL_lives_258, eL_lives_260, eL_lives_263, eL_lives_266, eL_lives_267, eL_lives_270, eL_lives_271, q7, r3, e1, lt, n1, m_cE_i, m_kill, (by decide : ¬ (7 : Int32) = 0), (by decide : ¬ (3000 : Int32) = 0), not_false_eq_true, if_false]
      simp only [eL_lives_273, eL_lives_275, eL_lives_278, eL_lives_279, eL_lives_280, eL_lives_282, eL_lives_284, eL_lives_287, eL_lives_290, eL_lives_291, eL_lives_293, g0, m_kill, if_true]
    · obtain ⟨t, M3, l, hr, hk, hff, fr⟩ := o_g h hK2 hf (v % 8) (v_og v) hd hgl
      have er : k_do K B 103 (nI (v % 8)) (nI (v_og v)) = v_r K v := by
        unfold v_r
        rw [q, hB]
        rfl
      rw [er] at hr hk hff
      refine ⟨t, M3, some (.int (nI (v_og v))), ?_, y_Md_L hG t2 hO hr hk hff fr⟩
      simp only [eL_lives_96, eL_lives_98, eL_lives_99, eL_lives_163, eL_lives_165, eL_lives_166, eL_lives_228, eL_lives_230, eL_lives_232, z3, z3n, z6, if_true, if_false]
      simp only [eL_lives_235, eL_lives_236, eL_lives_238, eL_lives_240, eL_lives_241, eL_lives_244, eL_lives_245, eL_lives_246, eL_lives_248, eL_lives_250, eL_lives_253, eL_lives_254, eL_lives_256, eL_lives_258, eL_lives_260, eL_lives_263, eL_lives_266, eL_lives_267, eL_lives_270, eL_lives_271, q7, r3, e1, lt, n1, m_cE_i, m_kill, (by decide : ¬ (7 : Int32) = 0), (by decide : ¬ (3000 : Int32) = 0), not_false_eq_true, if_false]
      simp only [eL_lives_273, eL_lives_275, eL_lives_278, eL_lives_279, eL_lives_280, eL_lives_282, eL_lives_284, eL_lives_287, eL_lives_290, eL_lives_291, eL_lives_293, g1, n1, l, m_cE_i, m_kill, if_false]
  · have z3 : (3 : Int32) ≤ nI (v / 8 % 8) := nI_le (a := 3) (by omega) (by omega)
    have z3n : ¬ nI (v / 8 % 8) = 3 := fun z => by have := (nI_eq (b := 3) (by omega) (by decide)).mp z; omega
    have z6 : (6 : Int32) ≤ nI (v / 8 % 8) := nI_le (a := 6) (by omega) (by omega)
    have z6e : nI (v / 8 % 8) = 6 := by rw [s1]; rfl
    have la : m_cl 93 [.ref (m_lc 1 0 0), .int 109] M = some (.inl (some (.int (nI (a + 1)))), y_ap M a (nI 109)) := l_append a (by omega) h5 109 (by decide)
    have l0 : ¬ nI (a + 1) ≤ 0 := nI_nle (by omega) (by omega)
    have hG := y_G1 (y_G0 h5 (by omega)) (by omega) (show 33 ≤ 109 ∧ 109 ≤ 126 by decide)
    have hO : y_O (y_ap M a (nI 109) 6 0 0) a (a + 1) (v_kd v) (v % 8) (v_og v) := Or.inr (Or.inr ⟨Or.inl q, by rw [q]; exact y_ap_i, rfl⟩)
    have hK2 : y_K (y_ap M a (nI 109)) = K := (y_G_K hG).trans hK
    rcases hg with rfl | rfl
    · refine ⟨-1, _, w5, ?_, y_Md_0 hG (by omega) hO hK2 hf⟩
      simp only [eL_lives_96, eL_lives_98, eL_lives_99, eL_lives_163, eL_lives_165, eL_lives_166, eL_lives_228, eL_lives_230, eL_lives_232, z3, z3n, z6, if_true, if_false]
      simp only [eL_lives_296, eL_lives_298, eL_lives_301, eL_lives_302, eL_lives_304, eL_lives_306, n1, if_false]
      rw [if_pos z6e]
      simp only [eL_lives_309, eL_lives_311, eL_lives_314, eL_lives_316, eL_lives_319, eL_lives_322, eL_lives_323, eL_lives_326, eL_lives_327, la, l0, m_cE_i, m_kill, if_false]
      simp only [eL_lives_329, eL_lives_331, eL_lives_334, eL_lives_335, eL_lives_338, eL_lives_340, eL_lives_342, eL_lives_345, eL_lives_346, eL_lives_348, eL_lives_351, eL_lives_354, eL_lives_355, eL_lives_356, eL_lives_357, eL_lives_358, eL_lives_361, g0, m_kill, if_true]
    · obtain ⟨t, M3, l, hr, hk, hff, fr⟩ := o_m h hK2 hf (nI (v % 8)) (nI (v_og v))
      have er : k_do K B 109 (nI (v % 8)) (nI (v_og v)) = v_r K v := by
        unfold v_r
        rw [q, hB]
        rfl
      rw [er] at hr hk hff
      refine ⟨t, M3, w5, ?_, y_Md_L hG (by omega) hO hr hk hff fr⟩
      simp only [eL_lives_96, eL_lives_98, eL_lives_99, eL_lives_163, eL_lives_165, eL_lives_166, eL_lives_228, eL_lives_230, eL_lives_232, z3, z3n, z6, if_true, if_false]
      simp only [eL_lives_296, eL_lives_298, eL_lives_301, eL_lives_302, eL_lives_304, eL_lives_306, n1, if_false]
      rw [if_pos z6e]
      simp only [eL_lives_309, eL_lives_311, eL_lives_314, eL_lives_316, eL_lives_319, eL_lives_322, eL_lives_323, eL_lives_326, eL_lives_327, la, l0, m_cE_i, m_kill, if_false]
      simp only [eL_lives_329, eL_lives_331, eL_lives_334, eL_lives_335, eL_lives_338, eL_lives_340, eL_lives_342, g1, n1, if_false]
      rw [if_pos z6e]
      simp only [eL_lives_345, eL_lives_346, eL_lives_348, eL_lives_351, eL_lives_354, eL_lives_355, eL_lives_356, eL_lives_357, eL_lives_358, eL_lives_361, l, m_cE_i, m_kill]
  · have z3 : (3 : Int32) ≤ nI (v / 8 % 8) := nI_le (a := 3) (by omega) (by omega)
    have z3n : ¬ nI (v / 8 % 8) = 3 := fun z => by have := (nI_eq (b := 3) (by omega) (by decide)).mp z; omega
    have z6 : (6 : Int32) ≤ nI (v / 8 % 8) := nI_le (a := 6) (by omega) (by omega)
    have z6n : ¬ nI (v / 8 % 8) = 6 := fun z => by have := (nI_eq (b := 6) (by omega) (by decide)).mp z; omega
    have la : m_cl 93 [.ref (m_lc 1 0 0), .int 110] M = some (.inl (some (.int (nI (a + 1)))), y_ap M a (nI 110)) := l_append a (by omega) h5 110 (by decide)
    have l0 : ¬ nI (a + 1) ≤ 0 := nI_nle (by omega) (by omega)
    have hG := y_G1 (y_G0 h5 (by omega)) (by omega) (show 33 ≤ 110 ∧ 110 ≤ 126 by decide)
    have hO : y_O (y_ap M a (nI 110) 6 0 0) a (a + 1) (v_kd v) (v % 8) (v_og v) := Or.inr (Or.inr ⟨Or.inr q, by rw [q]; exact y_ap_i, rfl⟩)
    have hK2 : y_K (y_ap M a (nI 110)) = K := (y_G_K hG).trans hK
    rcases hg with rfl | rfl
    · refine ⟨-1, _, w5, ?_, y_Md_0 hG (by omega) hO hK2 hf⟩
      simp only [eL_lives_96, eL_lives_98, eL_lives_99, eL_lives_163, eL_lives_165, eL_lives_166, eL_lives_228, eL_lives_230, eL_lives_232, z3, z3n, z6, if_true, if_false]
      simp only [eL_lives_296, eL_lives_298, eL_lives_301, eL_lives_302, eL_lives_304, eL_lives_306, n1, z6n, if_false]
      simp only [eL_lives_314, eL_lives_316, eL_lives_319, eL_lives_322, eL_lives_323, eL_lives_326, eL_lives_327, la, l0, m_cE_i, m_kill, if_false]
      simp only [eL_lives_329, eL_lives_331, eL_lives_334, eL_lives_335, eL_lives_338, eL_lives_340, eL_lives_342, eL_lives_345, eL_lives_346, eL_lives_348, eL_lives_351, eL_lives_354, eL_lives_355, eL_lives_356, eL_lives_357, eL_lives_358, eL_lives_361, g0, m_kill, if_true]
    · obtain ⟨t, M3, l, hr, hk, hff, fr⟩ := o_n h hK2 hf (nI (v % 8)) (nI (v_og v))
      have er : k_do K B 110 (nI (v % 8)) (nI (v_og v)) = v_r K v := by
        unfold v_r
        rw [q, hB]
        rfl
      rw [er] at hr hk hff
      refine ⟨t, M3, w5, ?_, y_Md_L hG (by omega) hO hr hk hff fr⟩
      simp only [eL_lives_96, eL_lives_98, eL_lives_99, eL_lives_163, eL_lives_165, eL_lives_166, eL_lives_228, eL_lives_230, eL_lives_232, z3, z3n, z6, if_true, if_false]
      simp only [eL_lives_296, eL_lives_298, eL_lives_301, eL_lives_302, eL_lives_304, eL_lives_306, n1, z6n, if_false]
      simp only [eL_lives_314, eL_lives_316, eL_lives_319, eL_lives_322, eL_lives_323, eL_lives_326, eL_lives_327, la, l0, m_cE_i, m_kill, if_false]
      simp only [eL_lives_329, eL_lives_331, eL_lives_334, eL_lives_335, eL_lives_338, eL_lives_340, eL_lives_342, g1, n1, z6n, if_false]
      simp only [eL_lives_354, eL_lives_355, eL_lives_356, eL_lives_357, eL_lives_358, eL_lives_361, l, m_cE_i, m_kill]
end DAY2
