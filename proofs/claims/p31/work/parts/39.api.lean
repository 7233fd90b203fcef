/-! FINESCRIP's own methods, the second half. -/
section API2
variable {M : m_Mem} {n N B : Nat}
theorem a_adjust (hI : f_I M n N B) (v : Int32) : m_cl 61 [.ref (m_lc 1 0 0), .int v] M =
    if f_bw v (-50) 50 = 0 then some (.inr "java/lang/IllegalArgumentException", M)
    else some (.inl (some (.int (if M 7 0 0 8 < 0 then -(M 7 0 0 8) else M 7 0 0 8))), m_set (m_set (f_sv M n) 7 0 0 8 v) 7 0 0 9 0) := by
  rw [e5_adjust_en]
  have e78 : f_sv M n 7 0 0 8 = M 7 0 0 8 := f_sv_o M n 7 0 0 8 (by decide) (by decide) (by decide)
  rcases f_bw_c v (-50) 50 with hb | hb
  · by_cases h1 : M 7 0 0 8 < 0
    · have h2 : ¬ 0 ≤ M 7 0 0 8 := Int32.not_le.mpr h1
      simp only [e5_adjust_0, e5_adjust_1, e5_adjust_3, e5_adjust_5, e5_adjust_8, e5_adjust_11, e5_adjust_21, e5_adjust_22, e5_adjust_25, e5_adjust_26, e5_adjust_29, e5_adjust_32, e5_adjust_33, e5_adjust_34, e5_adjust_37, e5_adjust_38, e5_adjust_41, e5_adjust_42, e5_adjust_45, e5_adjust_46, e5_adjust_49, e5_adjust_50, e5_adjust_53, e5_adjust_54, e5_adjust_55, e5_adjust_58, e5_adjust_59, m_k7, s_betw, hb, a_save hI, e78, h1, h2, m_cE_i, m_cE_v, m_cE_ite, m_kill, (by decide : ¬ (1 : Int32) = 0), if_true, if_false, not_false_eq_true]
    · have h2 : 0 ≤ M 7 0 0 8 := Int32.not_lt.mp h1
      simp only [e5_adjust_0, e5_adjust_1, e5_adjust_3, e5_adjust_5, e5_adjust_8, e5_adjust_11, e5_adjust_21, e5_adjust_22, e5_adjust_25, e5_adjust_26, e5_adjust_29, e5_adjust_32, e5_adjust_33, e5_adjust_34, e5_adjust_37, e5_adjust_38, e5_adjust_41, e5_adjust_42, e5_adjust_45, e5_adjust_46, e5_adjust_49, e5_adjust_50, e5_adjust_53, e5_adjust_54, e5_adjust_55, e5_adjust_58, e5_adjust_59, m_k7, s_betw, hb, a_save hI, e78, h1, h2, m_cE_i, m_cE_v, m_cE_ite, m_kill, (by decide : ¬ (1 : Int32) = 0), if_true, if_false, not_false_eq_true]
  · simp only [e5_adjust_0, e5_adjust_1, e5_adjust_3, e5_adjust_5, e5_adjust_8, e5_adjust_11, e5_adjust_21, e5_adjust_22, e5_adjust_25, e5_adjust_26, e5_adjust_29, e5_adjust_32, e5_adjust_33, e5_adjust_34, e5_adjust_37, e5_adjust_38, e5_adjust_41, e5_adjust_42, e5_adjust_45, e5_adjust_46, e5_adjust_49, e5_adjust_50, e5_adjust_53, e5_adjust_54, e5_adjust_55, e5_adjust_58, e5_adjust_59, s_betw, hb, m_cE_i, m_cE_v, m_cE_ite, m_kill, if_true, if_false, not_false_eq_true]
theorem a_set (hI : f_I M n N B) (h24 : ∀ j, j < 5 → M 24 0 0 j = m_s24 j) (h25 : ∀ j, j < 5 → M 25 0 0 j = m_s25 j) (t v : Int32) : m_cl 63 [.ref (m_lc 1 0 0), .int t, .int v] M =
    if f_bw t 0 4 = 0 then some (.inr "java/lang/IndexOutOfBoundsException", M) else if f_bw v (m_s24 t.toNatClampNeg) (m_s25 t.toNatClampNeg) = 0 then some (.inr "java/lang/IllegalArgumentException", M)
    else some (.inl (some (.int (M 11 0 0 t.toNatClampNeg))), m_set (f_sv M n) 11 0 0 t.toNatClampNeg v) := by
  rw [e5_set_en]
  rcases f_bw_c t 0 4 with hb | hb
  · obtain ⟨t, ht, rfl⟩ := f_bw_0n (U := 4) hb (by decide)
    have ct : (nI t).toNatClampNeg = t := nI_clamp (by omega)
    have ht5 : t < 5 := by omega
    have e11 : f_sv M n 11 0 0 t = M 11 0 0 t := f_sv_o M n 11 0 0 t (by decide) (by decide) (fun q => absurd q.1 (by decide))
    rcases f_bw_c v (m_s24 t) (m_s25 t) with hf | hf
    · simp only [e5_set_0, e5_set_1, e5_set_4, e5_set_7, e5_set_17, e5_set_18, e5_set_21, e5_set_22, e5_set_23, e5_set_26, e5_set_27, e5_set_28, e5_set_31, e5_set_34, e5_set_44, e5_set_45, e5_set_48, e5_set_49, e5_set_52, e5_set_55, e5_set_56, e5_set_57, e5_set_58, e5_set_59, e5_set_62, e5_set_65, e5_set_66, e5_set_67, e5_set_68, e5_set_69, m_k7, m_k11, ht5, s_isSetting, s_betw, hb, hf, ct, h24 t ht5, h25 t ht5, a_save hI, e11, m_cE_i, m_cE_v, m_cE_ite, m_kill, (by decide : ¬ (1 : Int32) = 0), if_true, if_false, not_false_eq_true]
    · simp only [e5_set_0, e5_set_1, e5_set_4, e5_set_7, e5_set_17, e5_set_18, e5_set_21, e5_set_22, e5_set_23, e5_set_26, e5_set_27, e5_set_28, e5_set_31, e5_set_34, e5_set_44, e5_set_45, e5_set_48, e5_set_49, e5_set_52, e5_set_55, e5_set_56, e5_set_57, e5_set_58, e5_set_59, e5_set_62, e5_set_65, e5_set_66, e5_set_67, e5_set_68, e5_set_69, m_k7, m_k11, ht5, s_isSetting, s_betw, hb, hf, ct, h24 t ht5, h25 t ht5, m_cE_i, m_cE_v, m_cE_ite, m_kill, (by decide : ¬ (1 : Int32) = 0), if_true, if_false, not_false_eq_true]
  · simp only [e5_set_0, e5_set_1, e5_set_4, e5_set_7, e5_set_17, e5_set_18, e5_set_21, e5_set_22, e5_set_23, e5_set_26, e5_set_27, e5_set_28, e5_set_31, e5_set_34, e5_set_44, e5_set_45, e5_set_48, e5_set_49, e5_set_52, e5_set_55, e5_set_56, e5_set_57, e5_set_58, e5_set_59, e5_set_62, e5_set_65, e5_set_66, e5_set_67, e5_set_68, e5_set_69, s_isSetting, hb, m_cE_i, m_cE_v, m_cE_ite, m_kill, if_true, if_false, not_false_eq_true]
theorem m_nc_of {v : Int32} (h : 33 ≤ v ∧ v ≤ 126) : (v.toUInt32 % 65536).toInt32 = v ∧ m_nc v = v ∧ m_nok 2 v = true := by
  obtain ⟨k, hk, rfl⟩ := nI_upto (N := 126) (Int32.le_trans (by decide : (0 : Int32) ≤ 33) h.1) h.2 (by decide)
  have key : ∀ k, k ≤ 126 → ((nI k).toUInt32 % 65536).toInt32 = nI k ∧ m_nc (nI k) = nI k ∧ m_nok 2 (nI k) = true := by decide +kernel
  exact key k hk
theorem a_append (L : Nat) (hL : L ≤ 60) (hl : M 5 0 0 1 = nI L) (v : Int32) : m_cl 64 [.ref (m_lc 1 0 0), .int v] M =
    if f_bw v 33 126 = 0 then some (.inr "java/lang/IllegalArgumentException", M) else if L < 60 then some (.inl (some (.int (nI (L + 1)))), m_set (m_set M 6 0 0 L v) 5 0 0 1 (nI (L + 1)))
    else some (.inr "java/lang/IllegalStateException", M) := by
  rw [e5_append_en]
  rcases f_bw_c v 33 126 with hb | hb
  · obtain ⟨c1, c2, c3⟩ := m_nc_of (f_bw_1 hb)
    by_cases h : L < 60
    · have hle : nI L < 60 := (nI_lt h (by decide) : nI L < nI 60)
      have hp := s_put L h M hl v c2
      simp only [e5_append_0, e5_append_1, e5_append_3, e5_append_5, e5_append_8, e5_append_11, e5_append_21, e5_append_22, e5_append_25, e5_append_28, e5_append_30, e5_append_33, e5_append_43, e5_append_44, e5_append_47, e5_append_48, e5_append_49, e5_append_52, e5_append_53, e5_append_56, e5_append_59, m_k5, s_betw, hb, hl, hle, h, c1, hp, m_set_i, m_cE_i, m_cE_v, m_cE_ite, m_kill, (by decide : ¬ (1 : Int32) = 0), if_true, if_false, not_false_eq_true]
    · have hle : ¬ nI L < 60 := (nI_nlt (by omega) (by omega) : ¬ nI L < nI 60)
      simp only [e5_append_0, e5_append_1, e5_append_3, e5_append_5, e5_append_8, e5_append_11, e5_append_21, e5_append_22, e5_append_25, e5_append_28, e5_append_30, e5_append_33, e5_append_43, e5_append_44, e5_append_47, e5_append_48, e5_append_49, e5_append_52, e5_append_53, e5_append_56, e5_append_59, m_k5, s_betw, hb, hl, hle, h, m_cE_i, m_cE_v, m_cE_ite, m_kill, (by decide : ¬ (1 : Int32) = 0), if_true, if_false, not_false_eq_true]
  · simp only [e5_append_0, e5_append_1, e5_append_3, e5_append_5, e5_append_8, e5_append_11, e5_append_21, e5_append_22, e5_append_25, e5_append_28, e5_append_30, e5_append_33, e5_append_43, e5_append_44, e5_append_47, e5_append_48, e5_append_49, e5_append_52, e5_append_53, e5_append_56, e5_append_59, s_betw, hb, m_cE_i, m_cE_v, m_cE_ite, m_kill, if_true, if_false, not_false_eq_true]
theorem a_clear : m_cl 65 [.ref (m_lc 1 0 0)] M = some (.inl (some (.int (M 5 0 0 1))), m_set M 5 0 0 1 0) := by
  rw [e5_clearBuffer_en]
  simp only [e5_clearBuffer_0, e5_clearBuffer_1, e5_clearBuffer_4, e5_clearBuffer_7, e5_clearBuffer_8, e5_clearBuffer_9, e5_clearBuffer_12, e5_clearBuffer_13, e5_clearBuffer_16, e5_clearBuffer_17, m_k5, m_cE_i, m_cE_v, m_cE_ite, m_kill]
theorem a_diggerOf (hI : f_I M n N B) (d k : Int32) : m_cl 67 [.ref (m_lc 1 0 0), .int d, .int k] M =
    if f_has d (M 7 0 0 5) 8 = 0 then some (.inr "java/lang/IndexOutOfBoundsException", M) else if f_bw k 0 8 = 0 then some (.inr "java/lang/IllegalArgumentException", M)
    else some (.inl (some (.int (f_dp M 0 d.toNatClampNeg k.toNatClampNeg))), M) := by
  have hN := hI.2.1
  rw [e5_diggerOf_en]
  rcases f_has_c d (M 7 0 0 5) 8 with hh | hh
  · have hh2 : f_has d (nI N) (nI 8) = 1 := by rw [← hN.2]; exact hh
    obtain ⟨d, hd, rfl⟩ := f_has1 hN.1 (by decide) hh2
    have cd : (nI d).toNatClampNeg = d := nI_clamp (by omega)
    rcases f_bw_c k 0 8 with hb | hb
    · obtain ⟨k, hk, rfl⟩ := f_bw_0n (U := 8) hb (by decide)
      have ck : (nI k).toNatClampNeg = k := nI_clamp (by omega)
      have hp : m_cl 24 [.ref (m_lc 7 0 0), .int (nI d), .int (nI k)] M = some (.inl (some (.int (f_dp M 0 d k))), M) := s_dProp8 0 (by decide) d (by omega) k (by omega) M
      simp only [e5_diggerOf_0, e5_diggerOf_1, e5_diggerOf_4, e5_diggerOf_5, e5_diggerOf_8, e5_diggerOf_11, e5_diggerOf_21, e5_diggerOf_22, e5_diggerOf_23, e5_diggerOf_25, e5_diggerOf_28, e5_diggerOf_31, e5_diggerOf_41, e5_diggerOf_42, e5_diggerOf_45, e5_diggerOf_46, e5_diggerOf_47, e5_diggerOf_50, m_k7, s_hasD 0 (by decide), s_betw, hh, hb, cd, ck, hp, m_cE_i, m_cE_v, m_cE_ite, m_kill, (by decide : ¬ (1 : Int32) = 0), if_true, if_false, not_false_eq_true]
    · simp only [e5_diggerOf_0, e5_diggerOf_1, e5_diggerOf_4, e5_diggerOf_5, e5_diggerOf_8, e5_diggerOf_11, e5_diggerOf_21, e5_diggerOf_22, e5_diggerOf_23, e5_diggerOf_25, e5_diggerOf_28, e5_diggerOf_31, e5_diggerOf_41, e5_diggerOf_42, e5_diggerOf_45, e5_diggerOf_46, e5_diggerOf_47, e5_diggerOf_50, m_k7, s_hasD 0 (by decide), s_betw, hh, hb, m_cE_i, m_cE_v, m_cE_ite, m_kill, (by decide : ¬ (1 : Int32) = 0), if_true, if_false, not_false_eq_true]
  · simp only [e5_diggerOf_0, e5_diggerOf_1, e5_diggerOf_4, e5_diggerOf_5, e5_diggerOf_8, e5_diggerOf_11, e5_diggerOf_21, e5_diggerOf_22, e5_diggerOf_23, e5_diggerOf_25, e5_diggerOf_28, e5_diggerOf_31, e5_diggerOf_41, e5_diggerOf_42, e5_diggerOf_45, e5_diggerOf_46, e5_diggerOf_47, e5_diggerOf_50, m_k7, s_hasD 0 (by decide), hh, m_cE_i, m_cE_v, m_cE_ite, m_kill, if_true, if_false, not_false_eq_true]
theorem a_claim (c k : Int32) : m_cl 68 [.ref (m_lc 1 0 0), .int c, .int k] M =
    if f_bw c 0 9 = 0 then some (.inr "java/lang/IllegalArgumentException", M) else if f_bw k 0 4 = 0 then some (.inr "java/lang/IllegalArgumentException", M)
    else some (.inl (some (.int (f_cpp M 0 c.toNatClampNeg k.toNatClampNeg))), M) := by
  rw [e5_claim_en]
  rcases f_bw_c c 0 9 with hh | hh
  · obtain ⟨c, hc, rfl⟩ := f_bw_0n (U := 9) hh (by decide)
    have cd : (nI c).toNatClampNeg = c := nI_clamp (by omega)
    have hc10 : c < 10 := by omega
    have h13 := m_d13 (j := 0) (c := c) (by decide) hc10
    rcases f_bw_c k 0 4 with hb | hb
    · obtain ⟨k, hk, rfl⟩ := f_bw_0n (U := 4) hb (by decide)
      have ck : (nI k).toNatClampNeg = k := nI_clamp (by omega)
      have hp : m_cl 33 [.ref (m_lc 13 0 c), .int (nI k)] M = some (.inl (some (.int (f_cpp M 0 c k))), M) := s_cProp 0 c (by decide) hc10 k (by omega) M
      simp only [e5_claim_0, e5_claim_1, e5_claim_4, e5_claim_7, e5_claim_17, e5_claim_18, e5_claim_19, e5_claim_20, e5_claim_23, e5_claim_26, e5_claim_36, e5_claim_37, e5_claim_40, e5_claim_43, e5_claim_44, e5_claim_45, e5_claim_46, e5_claim_49, m_k7, m_k9, h13, hc10, s_isClaim, s_betw, hh, hb, cd, ck, hp, m_cE_i, m_cE_v, m_cE_ite, m_kill, (by decide : ¬ (1 : Int32) = 0), if_true, if_false, not_false_eq_true]
    · simp only [e5_claim_0, e5_claim_1, e5_claim_4, e5_claim_7, e5_claim_17, e5_claim_18, e5_claim_19, e5_claim_20, e5_claim_23, e5_claim_26, e5_claim_36, e5_claim_37, e5_claim_40, e5_claim_43, e5_claim_44, e5_claim_45, e5_claim_46, e5_claim_49, s_isClaim, s_betw, hh, hb, m_cE_i, m_cE_v, m_cE_ite, m_kill, (by decide : ¬ (1 : Int32) = 0), if_true, if_false, not_false_eq_true]
  · simp only [e5_claim_0, e5_claim_1, e5_claim_4, e5_claim_7, e5_claim_17, e5_claim_18, e5_claim_19, e5_claim_20, e5_claim_23, e5_claim_26, e5_claim_36, e5_claim_37, e5_claim_40, e5_claim_43, e5_claim_44, e5_claim_45, e5_claim_46, e5_claim_49, s_isClaim, hh, m_cE_i, m_cE_v, m_cE_ite, m_kill, if_true, if_false, not_false_eq_true]
theorem a_bar (hI : f_I M n N B) (b k : Int32) : m_cl 69 [.ref (m_lc 1 0 0), .int b, .int k] M =
    if f_has b (M 7 0 0 6) 12 = 0 then some (.inr "java/lang/IndexOutOfBoundsException", M) else if f_bw k 0 4 = 0 then some (.inr "java/lang/IllegalArgumentException", M)
    else some (.inl (some (.int (f_bp M 0 b.toNatClampNeg k.toNatClampNeg))), M) := by
  have hB := hI.2.2.1
  rw [e5_bar_en]
  rcases f_has_c b (M 7 0 0 6) 12 with hh | hh
  · have hh2 : f_has b (nI B) (nI 12) = 1 := by rw [← hB.2]; exact hh
    obtain ⟨b, hb, rfl⟩ := f_has1 hB.1 (by decide) hh2
    have cb : (nI b).toNatClampNeg = b := nI_clamp (by omega)
    rcases f_bw_c k 0 4 with hk | hk
    · obtain ⟨k, hk5, rfl⟩ := f_bw_0n (U := 4) hk (by decide)
      have ck : (nI k).toNatClampNeg = k := nI_clamp (by omega)
      simp only [e5_bar_0, e5_bar_1, e5_bar_4, e5_bar_5, e5_bar_8, e5_bar_11, e5_bar_21, e5_bar_22, e5_bar_23, e5_bar_24, e5_bar_27, e5_bar_30, e5_bar_41, e5_bar_42, e5_bar_45, e5_bar_46, e5_bar_47, e5_bar_50, m_k7, s_hasB 0 (by decide), s_betw, hh, hk, cb, ck, s_bProp 0 (by decide) b (show b < 12 by omega) k (by omega), m_cE_i, m_cE_v, m_cE_ite, m_kill, (by decide : ¬ (1 : Int32) = 0), if_true, if_false, not_false_eq_true]
    · simp only [e5_bar_0, e5_bar_1, e5_bar_4, e5_bar_5, e5_bar_8, e5_bar_11, e5_bar_21, e5_bar_22, e5_bar_23, e5_bar_24, e5_bar_27, e5_bar_30, e5_bar_41, e5_bar_42, e5_bar_45, e5_bar_46, e5_bar_47, e5_bar_50, m_k7, s_hasB 0 (by decide), s_betw, hh, hk, m_cE_i, m_cE_v, m_cE_ite, m_kill, (by decide : ¬ (1 : Int32) = 0), if_true, if_false, not_false_eq_true]
  · simp only [e5_bar_0, e5_bar_1, e5_bar_4, e5_bar_5, e5_bar_8, e5_bar_11, e5_bar_21, e5_bar_22, e5_bar_23, e5_bar_24, e5_bar_27, e5_bar_30, e5_bar_41, e5_bar_42, e5_bar_45, e5_bar_46, e5_bar_47, e5_bar_50, m_k7, s_hasB 0 (by decide), hh, m_cE_i, m_cE_v, m_cE_ite, m_kill, if_true, if_false, not_false_eq_true]
theorem a_count (hI : f_I M n N B) (k : Int32) : m_cl 70 [.ref (m_lc 1 0 0), .int k] M =
    if f_bw k 0 16 = 0 then some (.inr "java/lang/IllegalArgumentException", M) else some (.inl (some (.int (if k.toNatClampNeg = 16 then nI n else f_num M 0 N B k.toNatClampNeg))), M) := by
  rw [e5_count_en]
  rcases f_bw_c k 0 16 with hb | hb
  · obtain ⟨k, hk, rfl⟩ := f_bw_0n (U := 16) hb (by decide)
    have ck : (nI k).toNatClampNeg = k := nI_clamp (by omega)
    by_cases h16 : k = 16
    · subst h16
      simp only [e5_count_0, e5_count_1, e5_count_2, e5_count_4, e5_count_7, e5_count_10, e5_count_21, e5_count_22, e5_count_24, e5_count_27, e5_count_28, e5_count_31, e5_count_34, e5_count_35, e5_count_38, e5_count_39, e5_count_42, m_k7, s_betw, hb, ck, hI.1.2, m_cE_i, m_cE_v, m_cE_ite, m_kill, (by decide : ¬ (1 : Int32) = 0), (by decide : nI 16 = 16), (by decide : f_bw 16 0 16 = 1), (by decide : Int32.toNatClampNeg 16 = 16), ne_eq, if_true, if_false, not_false_eq_true]
    · have h3 : ¬ nI k = 16 := fun q => h16 ((nI_eq (by omega) (by decide)).mp (q : nI k = nI 16))
      simp only [e5_count_0, e5_count_1, e5_count_2, e5_count_4, e5_count_7, e5_count_10, e5_count_21, e5_count_22, e5_count_24, e5_count_27, e5_count_28, e5_count_31, e5_count_34, e5_count_35, e5_count_38, e5_count_39, e5_count_42, m_k7, s_betw, hb, ck, h16, h3, s_num 0 (by decide) N B hI.2.1.1 hI.2.2.1.1 M hI.2.1.2 hI.2.2.1.2 k (by omega), m_cE_i, m_cE_v, m_cE_ite, m_kill, (by decide : ¬ (1 : Int32) = 0), if_true, if_false, not_false_eq_true]
  · simp only [e5_count_0, e5_count_1, e5_count_2, e5_count_4, e5_count_7, e5_count_10, e5_count_21, e5_count_22, e5_count_24, e5_count_27, e5_count_28, e5_count_31, e5_count_34, e5_count_35, e5_count_38, e5_count_39, e5_count_42, s_betw, hb, m_cE_i, m_cE_v, m_cE_ite, m_kill, if_true, if_false, not_false_eq_true]
theorem a_setting (t : Int32) : m_cl 71 [.ref (m_lc 1 0 0), .int t] M =
    if f_bw t 0 4 = 0 then some (.inr "java/lang/IndexOutOfBoundsException", M) else some (.inl (some (.int (M 11 0 0 t.toNatClampNeg))), M) := by
  rw [e5_setting_en]
  rcases f_bw_c t 0 4 with hb | hb
  · obtain ⟨t, ht, rfl⟩ := f_bw_0n (U := 4) hb (by decide)
    have ct : (nI t).toNatClampNeg = t := nI_clamp (by omega)
    have ht5 : t < 5 := by omega
    simp only [e5_setting_0, e5_setting_1, e5_setting_4, e5_setting_7, e5_setting_17, e5_setting_18, e5_setting_21, e5_setting_24, e5_setting_25, e5_setting_26, m_k7, m_k11, ht5, s_isSetting, hb, ct, m_cE_i, m_cE_v, m_cE_ite, m_kill, (by decide : ¬ (1 : Int32) = 0), if_true, if_false, not_false_eq_true]
  · simp only [e5_setting_0, e5_setting_1, e5_setting_4, e5_setting_7, e5_setting_17, e5_setting_18, e5_setting_21, e5_setting_24, e5_setting_25, e5_setting_26, s_isSetting, hb, m_cE_i, m_cE_v, m_cE_ite, m_kill, if_true, if_false, not_false_eq_true]
def f_iw (M : m_Mem) (g : Int32) (k : Nat) : Int32 := match k with
  | 0 => f_pay M 0 g
  | 1 => f_fee M 0 g
  | _ => f_told M 0 g
def f_gf (M : m_Mem) (c : Int32) : Int32 := if f_ft M 0 c < 9999 then f_ft M 0 c + 1 else -1
end API2
