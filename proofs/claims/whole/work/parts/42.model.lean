/-! THE MODEL: weighing, melting, a day. -/
section MODEL2
variable {M : m_Mem} {N : Nat}
/-- what weighing writes -/
def k_wi (M : m_Mem) (d c : Nat) (g : Int32) : m_Mem :=
  let p := k_price M g (M 16 0 0 8)
  let y := k_pays M g
  let t := if y / 2 < M 16 0 0 (13 + 8 * d + 1) then y / 2 else M 16 0 0 (13 + 8 * d + 1)
  let f := g * M 16 0 0 (77 + 6 * c + 0) / 1000
  let ad := fun (M : m_Mem) (i : Nat) (v : Int32) => m_set M 16 0 0 i (M 16 0 0 i + v)
  let M1 := ad (ad (ad (ad (ad (ad M (13 + 8 * d + 0) (y - t)) (13 + 8 * d + 1) (-t)) (13 + 8 * d + 3) g) (13 + 8 * d + 4) f) (13 + 8 * d + 5) y) (13 + 8 * d + 6) (p - y)
  let M2 := ad M1 (77 + 6 * c + 3) g
  let M3 := m_set M2 16 0 0 (77 + 6 * c + 5) 1
  let M4 := ad (ad (ad (ad M3 2 g) 3 f) 4 p) 7 1
  ad M4 6 (if M4 16 0 0 7 - M4 16 0 0 7 / M4 16 0 0 12 * M4 16 0 0 12 = 0 ∧ M4 16 0 0 6 < 50 then 1 else 0)
theorem g_w_tail (M4 : m_Mem) (y : Int32) (l1 l2 l3 l5 l6 l7 : Option Value) (n12 : ¬ M4 16 0 0 12 = 0) : m_E 125 191 [some (.ref (m_lc 15 0 0)), l1, l2, l3, some (.int y), l5, l6, l7] [] M4 =
    some (.inl (some (.int y)), m_set M4 16 0 0 6 (M4 16 0 0 6 + (if M4 16 0 0 7 - M4 16 0 0 7 / M4 16 0 0 12 * M4 16 0 0 12 = 0 ∧ M4 16 0 0 6 < 50 then 1 else 0))) := by
  by_cases h1 : M4 16 0 0 7 - M4 16 0 0 7 / M4 16 0 0 12 * M4 16 0 0 12 = 0
  · by_cases h2 : M4 16 0 0 6 < 50
    · have h3 : ¬ 50 ≤ M4 16 0 0 6 := Int32.not_le.mpr h2
      simp only [e6_weighs_191, e6_weighs_192, e6_weighs_195, e6_weighs_197, e6_weighs_198, e6_weighs_199, e6_weighs_200, e6_weighs_203, e6_weighs_205, e6_weighs_206, e6_weighs_207, e6_weighs_210, e6_weighs_212, e6_weighs_213, e6_weighs_214, e6_weighs_217, e6_weighs_218, e6_weighs_221, e6_weighs_223, e6_weighs_224, e6_weighs_226, e6_weighs_229, e6_weighs_230, e6_weighs_233, e6_weighs_234, e6_weighs_235, e6_weighs_236, e6_weighs_238, n12, h1, h2, h3, and_self, not_false_eq_true, ne_eq, if_true, if_false, not_false_eq_true]
    · have h3 : 50 ≤ M4 16 0 0 6 := Int32.not_lt.mp h2
      simp only [e6_weighs_191, e6_weighs_192, e6_weighs_195, e6_weighs_197, e6_weighs_198, e6_weighs_199, e6_weighs_200, e6_weighs_203, e6_weighs_205, e6_weighs_206, e6_weighs_207, e6_weighs_210, e6_weighs_212, e6_weighs_213, e6_weighs_214, e6_weighs_217, e6_weighs_218, e6_weighs_221, e6_weighs_223, e6_weighs_224, e6_weighs_226, e6_weighs_229, e6_weighs_230, e6_weighs_233, e6_weighs_234, e6_weighs_235, e6_weighs_236, e6_weighs_238, n12, h1, h2, h3, and_false, not_false_eq_true, ne_eq, if_true, if_false, not_false_eq_true]
  · simp only [e6_weighs_191, e6_weighs_192, e6_weighs_195, e6_weighs_197, e6_weighs_198, e6_weighs_199, e6_weighs_200, e6_weighs_203, e6_weighs_205, e6_weighs_206, e6_weighs_207, e6_weighs_210, e6_weighs_212, e6_weighs_213, e6_weighs_214, e6_weighs_217, e6_weighs_218, e6_weighs_221, e6_weighs_223, e6_weighs_224, e6_weighs_226, e6_weighs_229, e6_weighs_230, e6_weighs_233, e6_weighs_234, e6_weighs_235, e6_weighs_236, e6_weighs_238, n12, h1, false_and, not_false_eq_true, ne_eq, if_true, if_false, not_false_eq_true]
theorem g_weighs (d c : Nat) (hd : d < 8) (hc : c < 10) (g : Int32) (ho : M 16 0 0 (13 + 8 * d + 2) = nI c) (h12 : ¬ M 16 0 0 12 = 0) : m_cl 125 [.ref (m_lc 15 0 0), .int (nI d), .int g] M = some (.inl (some (.int (k_pays M g))), k_wi M d c g) := by
  have r : ∀ (M' : m_Mem) (i k : Nat) (v : Int32), k ≠ i → m_set M' 16 0 0 i v 16 0 0 k = M' 16 0 0 k := fun _ _ _ _ h => m_set_n (fun q => h q.2.2.2)
  rw [e6_weighs_en]
  unfold k_wi
  dsimp only
  generalize hp : k_price M g (M 16 0 0 8) = p
  generalize hy : k_pays M g = y
  have key : ∀ t : Int32, m_E 125 46 [some (.ref (m_lc 15 0 0)), some (.int (nI d)), some (.int g), some (.int p), some (.int y), none, none, none] [.int t] M =
      (let f := g * M 16 0 0 (77 + 6 * c + 0) / 1000
      let ad := fun (M : m_Mem) (i : Nat) (v : Int32) => m_set M 16 0 0 i (M 16 0 0 i + v)
      let M1 := ad (ad (ad (ad (ad (ad M (13 + 8 * d + 0) (y - t)) (13 + 8 * d + 1) (-t)) (13 + 8 * d + 3) g) (13 + 8 * d + 4) f) (13 + 8 * d + 5) y) (13 + 8 * d + 6) (p - y)
      let M2 := ad M1 (77 + 6 * c + 3) g
      let M3 := m_set M2 16 0 0 (77 + 6 * c + 5) 1
      let M4 := ad (ad (ad (ad M3 2 g) 3 f) 4 p) 7 1
      some (.inl (some (.int y)), ad M4 6 (if M4 16 0 0 7 - M4 16 0 0 7 / M4 16 0 0 12 * M4 16 0 0 12 = 0 ∧ M4 16 0 0 6 < 50 then 1 else 0))) := by
    intro t
    simp only [e6_weighs_46, e6_weighs_48, e6_weighs_49, e6_weighs_50, e6_weighs_51, e6_weighs_54, e6_weighs_56, e6_weighs_57, e6_weighs_58, e6_weighs_60, e6_weighs_61, e6_weighs_64, e6_weighs_65, e6_weighs_68, e6_weighs_69, e6_weighs_71, e6_weighs_72, e6_weighs_73, e6_weighs_74, e6_weighs_76, e6_weighs_78, e6_weighs_79, e6_weighs_82, e6_weighs_83, e6_weighs_84, e6_weighs_85, e6_weighs_87, e6_weighs_88, e6_weighs_91, e6_weighs_92, e6_weighs_93, e6_weighs_94, e6_weighs_95, e6_weighs_98, e6_weighs_99, e6_weighs_100, e6_weighs_101, e6_weighs_103, e6_weighs_106, e6_weighs_107, e6_weighs_108, e6_weighs_109, e6_weighs_111, e6_weighs_114, e6_weighs_115, e6_weighs_116, e6_weighs_118, e6_weighs_119, e6_weighs_121, e6_weighs_122, e6_weighs_125, e6_weighs_126, e6_weighs_128, e6_weighs_129, e6_weighs_130, e6_weighs_132, e6_weighs_133, e6_weighs_136, e6_weighs_137, e6_weighs_138, e6_weighs_141, e6_weighs_142, e6_weighs_144, e6_weighs_145, e6_weighs_146, e6_weighs_149, e6_weighs_150, e6_weighs_153, e6_weighs_154, e6_weighs_155, e6_weighs_156, e6_weighs_157, e6_weighs_158, e6_weighs_159, e6_weighs_160, e6_weighs_163, e6_weighs_164, e6_weighs_165, e6_weighs_166, g_of2 d hd, ho, g_ofC0 c hc, g_ofC3 c hc, g_adds0 d hd, g_adds1 d hd, g_adds3 d hd, g_adds4 d hd, g_adds5 d hd, g_adds6 d hd, g_lays3 c hc, g_lays5 c hc, m_cE_i, m_cE_v, m_cE_ite, m_kill, (by decide : ¬ (1000 : Int32) = 0), not_false_eq_true]
    simp only [e6_weighs_168, e6_weighs_169, e6_weighs_170, e6_weighs_171, e6_weighs_174, e6_weighs_175, e6_weighs_176, e6_weighs_177, e6_weighs_178, e6_weighs_179, e6_weighs_180, e6_weighs_181, e6_weighs_184, e6_weighs_186, e6_weighs_187, e6_weighs_188, e6_weighs_189, e6_weighs_190]
    refine g_w_tail _ _ _ _ _ _ _ _ ?_
    repeat rw [r _ _ _ _ (by omega)]
    exact h12
  by_cases hb : y / 2 < M 16 0 0 (13 + 8 * d + 1)
  · have hb2 : ¬ M 16 0 0 (13 + 8 * d + 1) ≤ y / 2 := Int32.not_le.mpr hb
    simp only [e6_weighs_0, e6_weighs_1, e6_weighs_2, e6_weighs_3, e6_weighs_6, e6_weighs_8, e6_weighs_9, e6_weighs_12, e6_weighs_13, e6_weighs_14, e6_weighs_15, e6_weighs_18, e6_weighs_20, e6_weighs_22, e6_weighs_23, e6_weighs_24, e6_weighs_25, e6_weighs_26, e6_weighs_27, e6_weighs_30, e6_weighs_33, e6_weighs_35, e6_weighs_36, e6_weighs_37, e6_weighs_40, e6_weighs_41, e6_weighs_42, e6_weighs_43, g_price, hp, g_pays, hy, g_of1 d hd, hb, hb2, m_kill, m_cE_i, m_cE_v, m_cE_ite, m_kill, (by decide : ¬ (2 : Int32) = 0), if_true, if_false, not_false_eq_true]
    exact key _
  · have hb2 : M 16 0 0 (13 + 8 * d + 1) ≤ y / 2 := Int32.not_lt.mp hb
    simp only [e6_weighs_0, e6_weighs_1, e6_weighs_2, e6_weighs_3, e6_weighs_6, e6_weighs_8, e6_weighs_9, e6_weighs_12, e6_weighs_13, e6_weighs_14, e6_weighs_15, e6_weighs_18, e6_weighs_20, e6_weighs_22, e6_weighs_23, e6_weighs_24, e6_weighs_25, e6_weighs_26, e6_weighs_27, e6_weighs_30, e6_weighs_33, e6_weighs_35, e6_weighs_36, e6_weighs_37, e6_weighs_40, e6_weighs_41, e6_weighs_42, e6_weighs_43, g_price, hp, g_pays, hy, g_of1 d hd, hb, hb2, m_kill, m_cE_i, m_cE_v, m_cE_ite, m_kill, (by decide : ¬ (2 : Int32) = 0), if_true, if_false, not_false_eq_true]
    exact key _
def k_mt (M : m_Mem) (b : Nat) : Nat → m_Mem
  | 0 => M
  | i + 1 => m_set (m_set (k_mt M b i) 16 0 0 (137 + 3 * b + i) (k_mt M b i 16 0 0 (2 + i))) 16 0 0 (2 + i) 0
theorem g_mt_l (b : Nat) (hb : b < 12) (z : Option Value) : ∀ (k i : Nat), i + k = 3 → m_E 130 15 [some (.ref (m_lc 15 0 0)), some (.int (nI (137 + 3 * b))), some (.int (nI i))] [] (k_mt M b i) = m_E 130 51 [some (.ref (m_lc 15 0 0)), some (.int (nI (137 + 3 * b))), some (.int (nI 3))] [] (k_mt M b 3) := by
  intro k
  induction k with
  | zero =>
    intro i hi
    have e : i = 3 := by omega
    subst e
    simp only [e6_melts_15, e6_melts_16, e6_melts_17, e6_melts_20, e6_melts_21, e6_melts_24, e6_melts_25, e6_melts_26, e6_melts_27, e6_melts_28, e6_melts_31, e6_melts_32, e6_melts_33, e6_melts_34, e6_melts_35, e6_melts_36, e6_melts_37, e6_melts_40, e6_melts_41, e6_melts_42, e6_melts_43, e6_melts_44, e6_melts_45, e6_melts_48, (by decide : (3 : Int32) ≤ nI 3), if_true]
  | succ k ih =>
    intro i hi
    have hle : ¬ (3 : Int32) ≤ nI i := nI_ge (b := 3) (by omega) (by decide)
    have h1 : 137 + 3 * b + i < 173 := by omega
    have h2 : 2 + i < 173 := by omega
    have e2 : (2 : Int32) + nI i = nI (2 + i) := nI_add 2 i
    rw [e6_melts_15]
    simp only [e6_melts_16, e6_melts_17, e6_melts_20, e6_melts_21, e6_melts_24, e6_melts_25, e6_melts_26, e6_melts_27, e6_melts_28, e6_melts_31, e6_melts_32, e6_melts_33, e6_melts_34, e6_melts_35, e6_melts_36, e6_melts_37, e6_melts_40, e6_melts_41, e6_melts_42, e6_melts_43, e6_melts_44, e6_melts_45, e6_melts_48, hle, h1, h2, e2, nI_add, if_false, nI_1]
    exact ih (i + 1) (by omega)
def k_me (M : m_Mem) (b : Nat) : m_Mem := m_set (k_mt M b 3) 16 0 0 5 (k_mt M b 3 16 0 0 5 + 1)
theorem g_melts (b : Nat) (hb : b < 12) (h5 : M 16 0 0 5 = nI b) : m_cl 130 [.ref (m_lc 15 0 0)] M = some (.inl (some (.int (k_mt M b 3 16 0 0 5 + 1 - 1))), k_me M b) := by
  rw [e6_melts_en]
  have L := g_mt_l (M := M) b hb none 3 0 rfl
  simp only [e6_melts_0, e6_melts_3, e6_melts_4, e6_melts_5, e6_melts_8, e6_melts_9, e6_melts_10, e6_melts_11, e6_melts_12, e6_melts_13, e6_melts_14, h5, g_x3, g_a137, m_kill]
  rw [show (0 : Int32) = nI 0 from rfl]
  refine Eq.trans L ?_
  simp only [e6_melts_51, e6_melts_52, e6_melts_55, e6_melts_56, e6_melts_57, e6_melts_58, e6_melts_59, e6_melts_60, e6_melts_61, e6_melts_62, e6_melts_65, e6_melts_66, e6_melts_67, e6_melts_68, e6_melts_69, m_set_i]
  rfl
end MODEL2
