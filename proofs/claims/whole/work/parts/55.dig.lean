/-! THE MODEL's digest. -/
theorem g_dlb (d : UInt64) (M : m_Mem) (hn : Op.cmpValue (FP.dcmp d d) CmpOp.l = 0) : m_cl 180 [.double d] M = some (.inl (some (.long d.toInt64)), M) := by
  have h1 : m_cl 179 [.double d] M = some (.inl (some (.int 0)), M) := by
    rw [e8_isNaN_en]
    simp only [e8_isNaN_0, e8_isNaN_1, e8_isNaN_2, e8_isNaN_3, e8_isNaN_6, e8_isNaN_7, e8_isNaN_10, e8_isNaN_11, hn, m_nok10, if_true, if_false, not_false_eq_true]
  rw [e8_doubleToLongBits_en]
  simp only [e8_doubleToLongBits_0, e8_doubleToLongBits_1, e8_doubleToLongBits_4, e8_doubleToLongBits_7, e8_doubleToLongBits_8, e8_doubleToLongBits_11, e8_doubleToLongBits_12, e8_doubleToLongBits_15, h1, m_cE_i, m_cE_v, m_cE_ite, m_kill, if_true, if_false, not_false_eq_true]
def k_sh (M : m_Mem) (N : Nat) : UInt64 := if k_tot M 3 N = 0 then FP.dconst0 else FP.ddiv (FP.i2d (k_tot M 4 N)) (FP.i2d (k_tot M 3 N))
def k_kt (x : Int32) : Int32 := if x = 0 then 0 else 1
def k_h5 (M : m_Mem) (p N B : Nat) : Int64 := f_h (f_h (f_h (f_h (f_h (f_h 3119 (k_num M p N B) 17) (fun k => M 16 0 0 (8 + k)) 5) (f_row (k_dp M) 9) (9 * N)) (f_row (fun c k => M 16 0 0 (77 + 6 * c + k)) 5) 50) (f_row (k_bp M) 5) (5 * B)) (k_iw M 777) 3
def k_h8 (M : m_Mem) (p N B : Nat) : Int64 := 31 * (31 * (31 * (31 * (31 * (31 * k_h5 M p N B + (k_fe M 100 9999 1).toInt64) + (k_wi1 (k_wo M N)).toInt64) + (k_sf M).toInt64) + (k_sh M N).toInt64) + (k_kt (M 19 0 0 0)).toInt64) + (k_kt (M 19 0 0 1)).toInt64
def k_hd (M : m_Mem) (p N B L : Nat) : Int64 := f_h (31 * k_h8 M p N B + (nI L).toInt64) (M 20 0 0) L
section DIG2
variable {M : m_Mem} {p N B : Nat}
theorem g_dig (hJ : k_J M p N B) (hW : ∀ b, b < B → ¬ M 16 0 0 (137 + 3 * b + 0) = 0) (L : Nat) (hL : L ≤ 60) (h7 : M 15 0 0 7 = nI L)
    (hn : ¬ k_tot M 3 N = 0 → FP.ddiv (FP.i2d (k_tot M 4 N)) (FP.i2d (k_tot M 3 N)) &&& 0x7fffffffffffffff ≤ 0x7ff0000000000000) (hq : Op.cmpValue (FP.dcmp (k_sh M N) (k_sh M N)) CmpOp.l = 0) :
    m_E 178 11 [some (.ref (m_lc 15 0 0)), some (.long 3119), none, some (.int 0)] [] M = some (.inl (some (.long (k_hd M p N B L))), M) := by
  have z : (0 : Int32) = nI 0 := rfl
  have sh : m_cl 176 [.ref (m_lc 15 0 0)] M = some (.inl (some (.double (k_sh M N))), M) := g_share hJ hn
  have dl := g_dlb (k_sh M N) M hq
  unfold k_hd k_h8 k_h5
  rw [z]
  refine Eq.trans (g_d1 hJ 17 0 rfl) ?_
  generalize f_h 3119 (k_num M p N B) 17 = h0
  simp only [e6_digest_36, e6_digest_37, m_kill]
  rw [z]
  refine Eq.trans (g_d2 h0 5 0 rfl) ?_
  generalize f_h h0 (fun k => M 16 0 0 (8 + k)) 5 = h1
  simp only [e6_digest_66, e6_digest_67, m_kill]
  rw [z]
  refine Eq.trans (g_d3 hJ h1 (9 * N) 0 (by omega)) ?_
  generalize f_h h1 (f_row (k_dp M) 9) (9 * N) = h2
  simp only [e6_digest_107, e6_digest_108, m_kill]
  rw [z]
  refine Eq.trans (g_d4 h2 50 0 rfl) ?_
  generalize f_h h2 (f_row (fun c k => M 16 0 0 (77 + 6 * c + k)) 5) 50 = h3
  simp only [e6_digest_139, e6_digest_140, m_kill]
  rw [z]
  refine Eq.trans (g_d5 hJ hW h3 (5 * B) 0 (by omega)) ?_
  generalize f_h h3 (f_row (k_bp M) 5) (5 * B) = h4
  simp only [e6_digest_177, e6_digest_178, m_kill]
  rw [z]
  refine Eq.trans (g_d6 h4 3 0 rfl) ?_
  generalize f_h h4 (k_iw M 777) 3 = h5
  simp only [e6_digest_206, e6_digest_209, e6_digest_212, e6_digest_215, e6_digest_216, e6_digest_217, e6_digest_218, e6_digest_220, e6_digest_223, e6_digest_224, e6_digest_225, e6_digest_226, e6_digest_227, e6_digest_230, e6_digest_231, e6_digest_232, e6_digest_233, e6_digest_234, e6_digest_237, e6_digest_238, e6_digest_239, e6_digest_240, e6_digest_243, e6_digest_244, e6_digest_245, e6_digest_246, e6_digest_249, e6_digest_252, e6_digest_253, e6_digest_254, e6_digest_257, g_few, g_wo hJ, g_safe, sh, dl, m_kill, m_cE_i, m_cE_v, m_cE_ite, m_kill]
  have fin := fun h => g_d7 (M := M) L hL h7 h L 0 (by omega)
  by_cases k0 : M 19 0 0 0 = 0
  · have e0 : k_kt (M 19 0 0 0) = 0 := if_pos k0
    by_cases k1 : M 19 0 0 1 = 0
    · have e1 : k_kt (M 19 0 0 1) = 0 := if_pos k1
      rw [e0, e1]
      simp only [e6_digest_260, e6_digest_261, e6_digest_262, e6_digest_263, e6_digest_266, e6_digest_267, e6_digest_268, e6_digest_271, e6_digest_272, e6_digest_275, e6_digest_276, e6_digest_277, e6_digest_278, e6_digest_279, e6_digest_280, e6_digest_283, e6_digest_284, e6_digest_285, e6_digest_288, e6_digest_289, e6_digest_292, e6_digest_293, e6_digest_294, e6_digest_295, e6_digest_296, e6_digest_299, e6_digest_300, e6_digest_301, e6_digest_302, e6_digest_305, e6_digest_306, e6_digest_307, e6_digest_308, e6_digest_309, k0, k1, h7, m_kill, if_true, if_false, not_false_eq_true]
      exact fin _
    · have e1 : k_kt (M 19 0 0 1) = 1 := if_neg k1
      rw [e0, e1]
      simp only [e6_digest_260, e6_digest_261, e6_digest_262, e6_digest_263, e6_digest_266, e6_digest_267, e6_digest_268, e6_digest_271, e6_digest_272, e6_digest_275, e6_digest_276, e6_digest_277, e6_digest_278, e6_digest_279, e6_digest_280, e6_digest_283, e6_digest_284, e6_digest_285, e6_digest_288, e6_digest_289, e6_digest_292, e6_digest_293, e6_digest_294, e6_digest_295, e6_digest_296, e6_digest_299, e6_digest_300, e6_digest_301, e6_digest_302, e6_digest_305, e6_digest_306, e6_digest_307, e6_digest_308, e6_digest_309, k0, k1, h7, m_kill, if_true, if_false, not_false_eq_true]
      exact fin _
  · have e0 : k_kt (M 19 0 0 0) = 1 := if_neg k0
    by_cases k1 : M 19 0 0 1 = 0
    · have e1 : k_kt (M 19 0 0 1) = 0 := if_pos k1
      rw [e0, e1]
      simp only [e6_digest_260, e6_digest_261, e6_digest_262, e6_digest_263, e6_digest_266, e6_digest_267, e6_digest_268, e6_digest_271, e6_digest_272, e6_digest_275, e6_digest_276, e6_digest_277, e6_digest_278, e6_digest_279, e6_digest_280, e6_digest_283, e6_digest_284, e6_digest_285, e6_digest_288, e6_digest_289, e6_digest_292, e6_digest_293, e6_digest_294, e6_digest_295, e6_digest_296, e6_digest_299, e6_digest_300, e6_digest_301, e6_digest_302, e6_digest_305, e6_digest_306, e6_digest_307, e6_digest_308, e6_digest_309, k0, k1, h7, m_kill, if_true, if_false, not_false_eq_true]
      exact fin _
    · have e1 : k_kt (M 19 0 0 1) = 1 := if_neg k1
      rw [e0, e1]
      simp only [e6_digest_260, e6_digest_261, e6_digest_262, e6_digest_263, e6_digest_266, e6_digest_267, e6_digest_268, e6_digest_271, e6_digest_272, e6_digest_275, e6_digest_276, e6_digest_277, e6_digest_278, e6_digest_279, e6_digest_280, e6_digest_283, e6_digest_284, e6_digest_285, e6_digest_288, e6_digest_289, e6_digest_292, e6_digest_293, e6_digest_294, e6_digest_295, e6_digest_296, e6_digest_299, e6_digest_300, e6_digest_301, e6_digest_302, e6_digest_305, e6_digest_306, e6_digest_307, e6_digest_308, e6_digest_309, k0, k1, h7, m_kill, if_true, if_false, not_false_eq_true]
      exact fin _
theorem h_digest (hJ : k_J M p N B) (hW : ∀ b, b < B → ¬ M 16 0 0 (137 + 3 * b + 0) = 0) (L : Nat) (hL : L ≤ 60) (h7 : M 15 0 0 7 = nI L)
    (hn : ¬ k_tot (k_0 M) 3 N = 0 → FP.ddiv (FP.i2d (k_tot (k_0 M) 4 N)) (FP.i2d (k_tot (k_0 M) 3 N)) &&& 0x7fffffffffffffff ≤ 0x7ff0000000000000) (hq : Op.cmpValue (FP.dcmp (k_sh (k_0 M) N) (k_sh (k_0 M) N)) CmpOp.l = 0) :
    m_cl 178 [.ref (m_lc 15 0 0)] M = some (.inl (some (.long (k_hd (k_0 M) p N B L))), k_0 M) := by
  rw [e6_digest_en]
  simp only [e6_digest_0, e6_digest_1, e6_digest_2, e6_digest_5, e6_digest_8, e6_digest_9, e6_digest_10, k_0_e, m_kill]
  exact g_dig (k_J_0 hJ) (fun b hb => by rw [k_0_16]; exact hW b hb) L hL (by rw [k_0_o _ _ _ _ _ (by decide)]; exact h7) hn hq
end DIG2
