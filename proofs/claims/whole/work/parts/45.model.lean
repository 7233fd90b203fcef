/-! THE MODEL's own methods, on. -/
section MAPI2
variable {M : m_Mem} {p N B : Nat}
theorem k_svs (hJ : k_J M p N B) : m_cl 108 [.ref (m_lc 15 0 0)] (k_0 M) = some (.inl none, k_sv (k_0 M) p) := g_saves p hJ.1.1 (k_J_0 hJ).1.2
theorem k_sv16 (M : m_Mem) (p k : Nat) : k_sv (k_0 M) p 16 0 0 k = M 16 0 0 k := by
  rw [k_sv_o _ _ _ _ _ _ (by decide) (fun q => absurd q.1 (by decide)), k_0_16]
theorem h_leave (hJ : k_J M p N B) (hD : ∀ d, d < N → M 16 0 0 (13 + 8 * d + 2) < 0 ∨ ∃ c, c < 10 ∧ M 16 0 0 (13 + 8 * d + 2) = nI c ∧ M 16 0 0 (77 + 6 * c + 1) = nI d) (d : Int32) : m_cl 135 [.ref (m_lc 15 0 0), .int d] M =
    if f_is d (M 16 0 0 1) = 0 then k_x M 1 else if M 16 0 0 (13 + 8 * d.toNatClampNeg + 2) < 0 then k_x M 2
    else some (.inl (some (.int (M 16 0 0 (13 + 8 * d.toNatClampNeg + 2)))), k_fr (k_sv (k_0 M) p) d.toNatClampNeg (M 16 0 0 (13 + 8 * d.toNatClampNeg + 2)).toNatClampNeg) := by
  have hJ0 := k_J_0 hJ
  have hs := k_svs hJ
  rw [e6_leave_en]
  rcases f_is_c d (M 16 0 0 1) with hh | hh
  · obtain ⟨d, hd, rfl⟩ := f_is1 (N := N) (by have := hJ.2.1.1; omega) (by rw [← hJ.2.1.2]; exact hh)
    have hd8 : d < 8 := by have := hJ.2.1.1; omega
    have cd : (nI d).toNatClampNeg = d := nI_clamp (by omega)
    rcases hD d hd with h1 | ⟨c, hc, h2, h3⟩
    · have h1b : ¬ 0 ≤ M 16 0 0 (13 + 8 * d + 2) := Int32.not_le.mpr h1
      simp only [e6_leave_0, e6_leave_1, e6_leave_2, e6_leave_5, e6_leave_6, e6_leave_7, e6_leave_10, e6_leave_13, e6_leave_14, e6_leave_15, e6_leave_18, e6_leave_19, e6_leave_20, e6_leave_21, e6_leave_22, e6_leave_25, e6_leave_26, e6_leave_27, e6_leave_30, e6_leave_31, e6_leave_32, e6_leave_35, e6_leave_36, e6_leave_37, e6_leave_40, e6_leave_41, e6_leave_42, e6_leave_45, e6_leave_46, k_0_e, g_isD, k_0_16, hh, cd, g_of2 d hd8, h1, h1b, g_fails, k_x, m_kill, m_cE_i, m_cE_v, m_cE_ite, m_kill, (by decide : ¬ (1 : Int32) = 0), ne_eq, if_true, if_false, not_false_eq_true]
    · have cc : (nI c).toNatClampNeg = c := nI_clamp (by omega)
      have h1 : ¬ nI c < 0 := nI_pos (by omega)
      have h1b : 0 ≤ nI c := nI_pos' (by omega)
      have hf := g_frees d c hd8 hc (k_sv (k_0 M) p) (by rw [k_sv16]; exact h3)
      simp only [e6_leave_0, e6_leave_1, e6_leave_2, e6_leave_5, e6_leave_6, e6_leave_7, e6_leave_10, e6_leave_13, e6_leave_14, e6_leave_15, e6_leave_18, e6_leave_19, e6_leave_20, e6_leave_21, e6_leave_22, e6_leave_25, e6_leave_26, e6_leave_27, e6_leave_30, e6_leave_31, e6_leave_32, e6_leave_35, e6_leave_36, e6_leave_37, e6_leave_40, e6_leave_41, e6_leave_42, e6_leave_45, e6_leave_46, k_0_e, g_isD, k_0_16, hh, cd, g_of2 d hd8, h2, cc, h1, h1b, hs, hf, m_kill, m_cE_i, m_cE_v, m_cE_ite, m_kill, (by decide : ¬ (1 : Int32) = 0), ne_eq, if_true, if_false, not_false_eq_true]
      rfl
  · simp only [e6_leave_0, e6_leave_1, e6_leave_2, e6_leave_5, e6_leave_6, e6_leave_7, e6_leave_10, e6_leave_13, e6_leave_14, e6_leave_15, e6_leave_18, e6_leave_19, e6_leave_20, e6_leave_21, e6_leave_22, e6_leave_25, e6_leave_26, e6_leave_27, e6_leave_30, e6_leave_31, e6_leave_32, e6_leave_35, e6_leave_36, e6_leave_37, e6_leave_40, e6_leave_41, e6_leave_42, e6_leave_45, e6_leave_46, k_0_e, g_isD, k_0_16, hh, g_fails, k_x, m_kill, m_cE_i, m_cE_v, m_cE_ite, m_kill, ne_eq, if_true, if_false, not_false_eq_true]
theorem h_vein (hJ : k_J M p N B) (c f : Int32) : m_cl 136 [.ref (m_lc 15 0 0), .int c, .int f] M =
    if f_bw c 0 9 = 0 then k_x M 1 else if f_bw f 500 1000 = 0 then k_x M 1
    else some (.inl (some (.int (M 16 0 0 (77 + 6 * c.toNatClampNeg + 0)))), m_set (k_sv (k_0 M) p) 16 0 0 (77 + 6 * c.toNatClampNeg + 0) f) := by
  have hs := k_svs hJ
  rw [e6_vein_en]
  rcases f_bw_c c 0 9 with hb | hb
  · obtain ⟨c, hc, rfl⟩ := f_bw_0n (U := 9) hb (by decide)
    have cc : (nI c).toNatClampNeg = c := nI_clamp (by omega)
    rcases f_bw_c f 500 1000 with hf | hf
    · simp only [e6_vein_0, e6_vein_1, e6_vein_2, e6_vein_5, e6_vein_6, e6_vein_9, e6_vein_12, e6_vein_13, e6_vein_16, e6_vein_19, e6_vein_22, e6_vein_25, e6_vein_26, e6_vein_27, e6_vein_30, e6_vein_31, e6_vein_32, e6_vein_35, e6_vein_36, e6_vein_37, e6_vein_38, e6_vein_41, e6_vein_42, e6_vein_43, e6_vein_44, e6_vein_45, e6_vein_46, e6_vein_49, e6_vein_50, k_0_e, g_isC, g_in, hb, hf, cc, hs, g_ofC0 c (show c < 10 by omega), g_lays0 c (show c < 10 by omega), k_sv16, m_kill, m_cE_i, m_cE_v, m_cE_ite, m_kill, (by decide : ¬ (1 : Int32) = 0), ne_eq, if_true, if_false, not_false_eq_true]
    · simp only [e6_vein_0, e6_vein_1, e6_vein_2, e6_vein_5, e6_vein_6, e6_vein_9, e6_vein_12, e6_vein_13, e6_vein_16, e6_vein_19, e6_vein_22, e6_vein_25, e6_vein_26, e6_vein_27, e6_vein_30, e6_vein_31, e6_vein_32, e6_vein_35, e6_vein_36, e6_vein_37, e6_vein_38, e6_vein_41, e6_vein_42, e6_vein_43, e6_vein_44, e6_vein_45, e6_vein_46, e6_vein_49, e6_vein_50, k_0_e, g_isC, g_in, hb, hf, g_fails, k_x, m_kill, m_cE_i, m_cE_v, m_cE_ite, m_kill, (by decide : ¬ (1 : Int32) = 0), ne_eq, if_true, if_false, not_false_eq_true]
  · simp only [e6_vein_0, e6_vein_1, e6_vein_2, e6_vein_5, e6_vein_6, e6_vein_9, e6_vein_12, e6_vein_13, e6_vein_16, e6_vein_19, e6_vein_22, e6_vein_25, e6_vein_26, e6_vein_27, e6_vein_30, e6_vein_31, e6_vein_32, e6_vein_35, e6_vein_36, e6_vein_37, e6_vein_38, e6_vein_41, e6_vein_42, e6_vein_43, e6_vein_44, e6_vein_45, e6_vein_46, e6_vein_49, e6_vein_50, k_0_e, g_isC, hb, g_fails, k_x, m_kill, m_cE_i, m_cE_v, m_cE_ite, m_kill, ne_eq, if_true, if_false, not_false_eq_true]
def k_mw (M : m_Mem) (d g : Int32) : Int32 := if f_is d (M 16 0 0 1) = 0 then 1 else if f_bw g 1 9999 = 0 then 2 else if M 16 0 0 (13 + 8 * d.toNatClampNeg + 2) < 0 ∨ 99999 < M 16 0 0 2 + g then 3 else 0
def k_mb (M : m_Mem) (d g : Int32) : Int32 := if f_is d (M 16 0 0 1) = 0 then 1 else if f_bw g 1 9999 = 0 then 2 else if 5000 < M 16 0 0 (13 + 8 * d.toNatClampNeg + 1) + k_lk M d.toNatClampNeg g then 3 else 0
theorem k_mw_c (d g : Int32) : 0 < k_mw M d g ∨ k_mw M d g = 0 := by
  unfold k_mw
  split
  · exact Or.inl (by decide)
  · split
    · exact Or.inl (by decide)
    · split
      · exact Or.inl (by decide)
      · exact Or.inr rfl
theorem k_mb_c (d g : Int32) : 0 < k_mb M d g ∨ k_mb M d g = 0 := by
  unfold k_mb
  split
  · exact Or.inl (by decide)
  · split
    · exact Or.inl (by decide)
    · split
      · exact Or.inl (by decide)
      · exact Or.inr rfl
theorem k_mw_0 (hJ : k_J M p N B) {d g : Int32} (h : k_mw M d g = 0) : ∃ d', d' < N ∧ d = nI d' ∧ ¬ M 16 0 0 (13 + 8 * d' + 2) < 0 := by
  unfold k_mw at h
  rcases f_is_c d (M 16 0 0 1) with q | q
  · obtain ⟨d', hd, rfl⟩ := f_is1 (N := N) (by have := hJ.2.1.1; omega) (by rw [← hJ.2.1.2]; exact q)
    refine ⟨d', hd, rfl, fun hz => ?_⟩
    rw [nI_clamp (by have := hJ.2.1.1; omega), if_neg (by rw [q]; decide)] at h
    split at h
    · exact absurd h (by decide)
    · rw [if_pos (Or.inl hz)] at h
      exact absurd h (by decide)
  · rw [if_pos q] at h
    exact absurd h (by decide)
theorem k_mb_0 (hJ : k_J M p N B) {d g : Int32} (h : k_mb M d g = 0) : ∃ d', d' < N ∧ d = nI d' := by
  unfold k_mb at h
  rcases f_is_c d (M 16 0 0 1) with q | q
  · obtain ⟨d', hd, rfl⟩ := f_is1 (N := N) (by have := hJ.2.1.1; omega) (by rw [← hJ.2.1.2]; exact q)
    exact ⟨d', hd, rfl⟩
  · rw [if_pos q] at h
    exact absurd h (by decide)
theorem h_weigh (hJ : k_J M p N B) (hD : ∀ d, d < N → M 16 0 0 (13 + 8 * d + 2) < 0 ∨ ∃ c, c < 10 ∧ M 16 0 0 (13 + 8 * d + 2) = nI c) (h12 : ¬ M 16 0 0 12 = 0) (d g : Int32) : m_cl 137 [.ref (m_lc 15 0 0), .int d, .int g] M =
    if 0 < k_mw (k_0 M) d g then k_x M (k_mw (k_0 M) d g) else some (.inl (some (.int (k_pays (k_sv (k_0 M) p) g))), k_wi (k_sv (k_0 M) p) d.toNatClampNeg (M 16 0 0 (13 + 8 * d.toNatClampNeg + 2)).toNatClampNeg g) := by
  have hJ0 := k_J_0 hJ
  have hm : m_cl 124 [.ref (m_lc 15 0 0), .int d, .int g] (k_0 M) = some (.inl (some (.int (k_mw (k_0 M) d g))), k_0 M) := g_mayWeigh hJ0.2.1.1 hJ0.2.1.2 d g
  rw [e6_weigh_en]
  rcases k_mw_c (M := k_0 M) d g with h | h
  · have h2 : ¬ k_mw (k_0 M) d g ≤ 0 := Int32.not_le.mpr h
    rw [if_pos h]
    simp only [e6_weigh_0, e6_weigh_1, e6_weigh_2, e6_weigh_5, e6_weigh_6, e6_weigh_7, e6_weigh_8, e6_weigh_11, e6_weigh_12, e6_weigh_13, e6_weigh_16, e6_weigh_17, e6_weigh_18, e6_weigh_21, e6_weigh_22, e6_weigh_23, e6_weigh_26, e6_weigh_27, e6_weigh_28, e6_weigh_29, e6_weigh_32, k_0_e, hm, h2, g_fails, k_x, m_kill, m_cE_i, m_cE_v, m_cE_ite, m_kill, ne_eq, if_true, if_false, not_false_eq_true]
  · obtain ⟨d', hd, rfl, hz⟩ := k_mw_0 hJ0 h
    rw [k_0_16] at hz
    obtain ⟨c, hc, ho⟩ := (hD d' hd).resolve_left hz
    have cd : (nI d').toNatClampNeg = d' := nI_clamp (by have := hJ.2.1.1; omega)
    have cc : (nI c).toNatClampNeg = c := nI_clamp (by omega)
    have hd8 : d' < 8 := by have := hJ.2.1.1; omega
    have hw := g_weighs (M := k_sv (k_0 M) p) d' c hd8 hc g (by rw [k_sv16]; exact ho) (by rw [k_sv16]; exact h12)
    rw [if_neg (by rw [h]; decide)]
    simp only [e6_weigh_0, e6_weigh_1, e6_weigh_2, e6_weigh_5, e6_weigh_6, e6_weigh_7, e6_weigh_8, e6_weigh_11, e6_weigh_12, e6_weigh_13, e6_weigh_16, e6_weigh_17, e6_weigh_18, e6_weigh_21, e6_weigh_22, e6_weigh_23, e6_weigh_26, e6_weigh_27, e6_weigh_28, e6_weigh_29, e6_weigh_32, k_0_e, hm, h, (by decide : (0 : Int32) ≤ 0), k_svs hJ, hw, cd, ho, cc, m_kill, m_cE_i, m_cE_v, m_cE_ite, m_kill, ne_eq, if_true, if_false, not_false_eq_true]
theorem h_buy (hJ : k_J M p N B) (d g : Int32) : m_cl 138 [.ref (m_lc 15 0 0), .int d, .int g] M =
    if 0 < k_mb (k_0 M) d g then k_x M (k_mb (k_0 M) d g) else some (.inl (some (.int (k_bu (k_sv (k_0 M) p) d.toNatClampNeg g 16 0 0 (13 + 8 * d.toNatClampNeg + 1)))), k_bu (k_sv (k_0 M) p) d.toNatClampNeg g) := by
  have hJ0 := k_J_0 hJ
  have hm : m_cl 127 [.ref (m_lc 15 0 0), .int d, .int g] (k_0 M) = some (.inl (some (.int (k_mb (k_0 M) d g))), k_0 M) := g_mayBuy hJ0.2.1.1 hJ0.2.1.2 d g
  rw [e6_buy_en]
  rcases k_mb_c (M := k_0 M) d g with h | h
  · have h2 : ¬ k_mb (k_0 M) d g ≤ 0 := Int32.not_le.mpr h
    rw [if_pos h]
    simp only [e6_buy_0, e6_buy_1, e6_buy_2, e6_buy_5, e6_buy_6, e6_buy_7, e6_buy_8, e6_buy_11, e6_buy_12, e6_buy_13, e6_buy_16, e6_buy_17, e6_buy_18, e6_buy_21, e6_buy_22, e6_buy_23, e6_buy_26, e6_buy_27, e6_buy_28, e6_buy_29, e6_buy_32, e6_buy_33, e6_buy_34, e6_buy_35, e6_buy_38, k_0_e, hm, h2, g_fails, k_x, m_kill, m_cE_i, m_cE_v, m_cE_ite, m_kill, ne_eq, if_true, if_false, not_false_eq_true]
  · obtain ⟨d', hd, rfl⟩ := k_mb_0 hJ0 h
    have cd : (nI d').toNatClampNeg = d' := nI_clamp (by have := hJ.2.1.1; omega)
    have hd8 : d' < 8 := by have := hJ.2.1.1; omega
    rw [if_neg (by rw [h]; decide)]
    simp only [e6_buy_0, e6_buy_1, e6_buy_2, e6_buy_5, e6_buy_6, e6_buy_7, e6_buy_8, e6_buy_11, e6_buy_12, e6_buy_13, e6_buy_16, e6_buy_17, e6_buy_18, e6_buy_21, e6_buy_22, e6_buy_23, e6_buy_26, e6_buy_27, e6_buy_28, e6_buy_29, e6_buy_32, e6_buy_33, e6_buy_34, e6_buy_35, e6_buy_38, k_0_e, hm, h, (by decide : (0 : Int32) ≤ 0), k_svs hJ, g_buys d' hd8, g_of1 d' hd8, cd, m_kill, m_cE_i, m_cE_v, m_cE_ite, m_kill, ne_eq, if_true, if_false, not_false_eq_true]
theorem h_melt (hJ : k_J M p N B) : m_cl 139 [.ref (m_lc 15 0 0)] M =
    if 0 < M 16 0 0 2 ∧ B < 12 then some (.inl (some (.int (k_mt (k_sv (k_0 M) p) B 3 16 0 0 5 + 1 - 1))), k_me (k_sv (k_0 M) p) B) else k_x M 1 := by
  have hB := hJ.2.2
  rw [e6_melt_en]
  by_cases h : 0 < M 16 0 0 2 ∧ B < 12
  · have h3 : nI B < 12 := (nI_lt h.2 (by decide) : nI B < nI 12)
    have hm := g_melts (M := k_sv (k_0 M) p) B h.2 (by rw [k_sv16]; exact hB.2)
    rw [if_pos h]
    simp only [e6_melt_0, e6_melt_1, e6_melt_2, e6_melt_5, e6_melt_6, e6_melt_9, e6_melt_12, e6_melt_13, e6_melt_14, e6_melt_17, e6_melt_18, e6_melt_19, e6_melt_22, e6_melt_23, e6_melt_26, k_0_e, g_mayMelt, k_0_16, hB.2, h.1, h3, k_svs hJ, hm, m_kill, m_cE_i, m_cE_v, m_cE_ite, m_kill, (by decide : ¬ (1 : Int32) = 0), and_self, ne_eq, if_true, if_false, not_false_eq_true]
  · have h2 : ¬ (0 < M 16 0 0 2 ∧ nI B < 12) := fun q => h ⟨q.1, Decidable.byContradiction fun z => absurd q.2 (nI_nlt (by omega) (by omega) : ¬ nI B < nI 12)⟩
    rw [if_neg h]
    simp only [e6_melt_0, e6_melt_1, e6_melt_2, e6_melt_5, e6_melt_6, e6_melt_9, e6_melt_12, e6_melt_13, e6_melt_14, e6_melt_17, e6_melt_18, e6_melt_19, e6_melt_22, e6_melt_23, e6_melt_26, k_0_e, g_mayMelt, k_0_16, hB.2, h2, g_fails, k_x, m_kill, m_cE_i, m_cE_v, m_cE_ite, m_kill, ne_eq, if_true, if_false, not_false_eq_true]
theorem h_adjust (hJ : k_J M p N B) (v : Int32) : m_cl 140 [.ref (m_lc 15 0 0), .int v] M =
    if f_bw v (-50) 50 = 0 then k_x M 1 else some (.inl (some (.int (if M 16 0 0 6 < 0 then -(M 16 0 0 6) else M 16 0 0 6))), m_set (m_set (k_sv (k_0 M) p) 16 0 0 6 v) 16 0 0 7 0) := by
  rw [e6_adjust_en]
  rcases f_bw_c v (-50) 50 with hb | hb
  · by_cases h1 : M 16 0 0 6 < 0
    · have h2 : ¬ 0 ≤ M 16 0 0 6 := Int32.not_le.mpr h1
      simp only [e6_adjust_0, e6_adjust_1, e6_adjust_2, e6_adjust_5, e6_adjust_6, e6_adjust_8, e6_adjust_10, e6_adjust_13, e6_adjust_16, e6_adjust_17, e6_adjust_18, e6_adjust_21, e6_adjust_22, e6_adjust_23, e6_adjust_26, e6_adjust_27, e6_adjust_30, e6_adjust_32, e6_adjust_33, e6_adjust_34, e6_adjust_35, e6_adjust_38, e6_adjust_40, e6_adjust_41, e6_adjust_42, e6_adjust_43, e6_adjust_46, e6_adjust_48, e6_adjust_49, e6_adjust_50, e6_adjust_51, e6_adjust_54, e6_adjust_55, e6_adjust_56, e6_adjust_59, e6_adjust_60, k_0_e, g_in, hb, k_svs hJ, k_sv16, h1, h2, m_kill, m_cE_i, m_cE_v, m_cE_ite, m_kill, (by decide : ¬ (1 : Int32) = 0), ne_eq, if_true, if_false, not_false_eq_true]
    · have h2 : 0 ≤ M 16 0 0 6 := Int32.not_lt.mp h1
      simp only [e6_adjust_0, e6_adjust_1, e6_adjust_2, e6_adjust_5, e6_adjust_6, e6_adjust_8, e6_adjust_10, e6_adjust_13, e6_adjust_16, e6_adjust_17, e6_adjust_18, e6_adjust_21, e6_adjust_22, e6_adjust_23, e6_adjust_26, e6_adjust_27, e6_adjust_30, e6_adjust_32, e6_adjust_33, e6_adjust_34, e6_adjust_35, e6_adjust_38, e6_adjust_40, e6_adjust_41, e6_adjust_42, e6_adjust_43, e6_adjust_46, e6_adjust_48, e6_adjust_49, e6_adjust_50, e6_adjust_51, e6_adjust_54, e6_adjust_55, e6_adjust_56, e6_adjust_59, e6_adjust_60, k_0_e, g_in, hb, k_svs hJ, k_sv16, h1, h2, m_kill, m_cE_i, m_cE_v, m_cE_ite, m_kill, (by decide : ¬ (1 : Int32) = 0), ne_eq, if_true, if_false, not_false_eq_true]
  · simp only [e6_adjust_0, e6_adjust_1, e6_adjust_2, e6_adjust_5, e6_adjust_6, e6_adjust_8, e6_adjust_10, e6_adjust_13, e6_adjust_16, e6_adjust_17, e6_adjust_18, e6_adjust_21, e6_adjust_22, e6_adjust_23, e6_adjust_26, e6_adjust_27, e6_adjust_30, e6_adjust_32, e6_adjust_33, e6_adjust_34, e6_adjust_35, e6_adjust_38, e6_adjust_40, e6_adjust_41, e6_adjust_42, e6_adjust_43, e6_adjust_46, e6_adjust_48, e6_adjust_49, e6_adjust_50, e6_adjust_51, e6_adjust_54, e6_adjust_55, e6_adjust_56, e6_adjust_59, e6_adjust_60, k_0_e, g_in, hb, g_fails, k_x, m_kill, m_cE_i, m_cE_v, m_cE_ite, m_kill, ne_eq, if_true, if_false, not_false_eq_true]
end MAPI2
