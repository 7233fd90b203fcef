/-! FINESCRIP's own methods. -/
theorem m_k7 : m_dom 7 0 0 = true := m_d7 (by decide)
theorem m_k8 : m_dom 8 0 0 = true := m_d8 (by decide)
theorem m_k9 : m_dom 9 0 0 = true := m_d9 (by decide)
theorem m_k10 : m_dom 10 0 0 = true := m_d10 (by decide)
theorem m_k11 : m_dom 11 0 0 = true := m_d11 (by decide)
theorem f_cm_o (M : m_Mem) (j j2 a b c k : Nat) (h : b ≠ j) : f_cm M j j2 a b c k = M a b c k := by
  unfold f_cm
  rw [m_set_n (fun q => h q.2.1), m_set_n (fun q => h q.2.1), m_set_n (fun q => h q.2.1), m_set_n (fun q => h q.2.1), m_set_n (fun q => h q.2.1), m_cpy_at, if_neg (fun q => h q.2.1), m_cp_at, if_neg (fun q => h q.2.1)]
  unfold f_blk
  rw [if_neg (fun q => h q.2.1), if_neg (fun q => h q.2.1), if_neg (fun q => h q.2.1)]
theorem f_sv_o (M : m_Mem) (n a b c k : Nat) (hb : b < 3) (h4 : a ≠ 4) (h1 : ¬ (a = 1 ∧ k = 5)) : f_sv M n a b c k = M a b c k := by
  unfold f_sv
  split
  · rw [m_set_n (fun q => h1 ⟨q.1, q.2.2.2⟩), f_cm_o _ _ _ _ _ _ _ (by omega)]
  · rw [m_set_n (fun q => h1 ⟨q.1, q.2.2.2⟩), f_cm_o _ _ _ _ _ _ _ (by omega), m_set_n (fun q => h1 ⟨q.1, q.2.2.2⟩)]
    unfold f_rot
    rw [if_neg (fun q => h4 q.1)]
def f_I (M : m_Mem) (n N B : Nat) : Prop := (n ≤ 6 ∧ M 1 0 0 5 = nI n) ∧ (N ≤ 8 ∧ M 7 0 0 5 = nI N) ∧ (B ≤ 12 ∧ M 7 0 0 6 = nI B) ∧ f_Q M ∧ (∀ c, c < 10 → m_nok 1 (M 13 0 c 3) = true)
section API
variable {M : m_Mem} {n N B : Nat}
theorem a_save (hI : f_I M n N B) : m_cl 76 [.ref (m_lc 1 0 0)] M = some (.inl none, f_sv M n) := s_save M hI.2.2.2.1 n hI.1.1 hI.1.2 hI.2.2.2.2
theorem f_has1 {v : Int32} {N L : Nat} (hN : N ≤ L) (hL : L < 2 ^ 31) (h : f_has v (nI N) (nI L) = 1) : ∃ d, d < N ∧ v = nI d := by
  unfold f_has at h
  split at h
  · rename_i q
    exact nI_below q.1 q.2.1 (by omega)
  · exact absurd h (by decide)
theorem f_has_c (v n l : Int32) : f_has v n l = 1 ∨ f_has v n l = 0 := by
  unfold f_has
  split
  · exact Or.inl rfl
  · exact Or.inr rfl
theorem f_bw_c (v l u : Int32) : f_bw v l u = 1 ∨ f_bw v l u = 0 := by
  unfold f_bw
  split
  · exact Or.inl rfl
  · exact Or.inr rfl
theorem f_bw_1 {v l u : Int32} (h : f_bw v l u = 1) : l ≤ v ∧ v ≤ u := by
  unfold f_bw at h
  split at h
  · assumption
  · exact absurd h (by decide)
theorem f_bw_0n {v : Int32} {U : Nat} (h : f_bw v 0 (nI U) = 1) (hU : U < 2 ^ 31) : ∃ k, k ≤ U ∧ v = nI k := nI_upto (f_bw_1 h).1 (f_bw_1 h).2 hU
theorem a_digger (hI : f_I M n N B) : m_cl 54 [.ref (m_lc 1 0 0)] M = if N < 8 then some (.inl (some (.int (nI N))), m_set (f_sv M n) 7 0 0 5 (nI (N + 1))) else some (.inr "java/lang/IllegalStateException", M) := by
  have hN := hI.2.1
  have e75 : f_sv M n 7 0 0 5 = nI N := by rw [f_sv_o M n 7 0 0 5 (by decide) (by decide) (by decide)]; exact hN.2
  rw [e5_digger_en]
  by_cases h : N < 8
  · have hle : nI N < 8 := (nI_lt h (by decide) : nI N < nI 8)
    simp only [e5_digger_0, e5_digger_1, e5_digger_4, e5_digger_7, e5_digger_9, e5_digger_12, e5_digger_22, e5_digger_23, e5_digger_26, e5_digger_27, e5_digger_30, e5_digger_31, e5_digger_34, e5_digger_35, e5_digger_36, e5_digger_39, e5_digger_40, e5_digger_43, e5_digger_46, e5_digger_47, e5_digger_48, m_k7, hN.2, hle, a_save hI, e75, h, m_cE_i, m_cE_v, m_cE_ite, m_kill, nI_1, nI_pred, m_set_i, if_true, if_false, not_false_eq_true]
  · have hle : ¬ nI N < 8 := (nI_nlt (by omega) (by omega) : ¬ nI N < nI 8)
    simp only [e5_digger_0, e5_digger_1, e5_digger_4, e5_digger_7, e5_digger_9, e5_digger_12, e5_digger_22, e5_digger_23, e5_digger_26, e5_digger_27, e5_digger_30, e5_digger_31, e5_digger_34, e5_digger_35, e5_digger_36, e5_digger_39, e5_digger_40, e5_digger_43, e5_digger_46, e5_digger_47, e5_digger_48, m_k7, hN.2, hle, h, m_cE_i, m_cE_v, m_cE_ite, m_kill, if_true, if_false, not_false_eq_true]
theorem a_stake (hI : f_I M n N B) (d c : Int32) : m_cl 55 [.ref (m_lc 1 0 0), .int d, .int c] M =
    if f_has d (M 7 0 0 5) 8 = 0 then some (.inr "java/lang/IndexOutOfBoundsException", M) else if f_bw c 0 9 = 0 then some (.inr "java/lang/IllegalArgumentException", M)
    else if M 12 0 d.toNatClampNeg 2 = -1 ∧ M 13 0 c.toNatClampNeg 1 = -1 then some (.inl (some (.int (f_tk (f_give (m_set (f_sv M n) 12 0 d.toNatClampNeg 2 c) 0 c.toNatClampNeg d) 0 10))), f_give (m_set (f_sv M n) 12 0 d.toNatClampNeg 2 c) 0 c.toNatClampNeg d)
    else some (.inr "java/lang/IllegalStateException", M) := by
  have hN := hI.2.1
  rw [e5_stake_en]
  rcases f_has_c d (M 7 0 0 5) 8 with hh | hh
  · have hh2 : f_has d (nI N) (nI 8) = 1 := by rw [← hN.2]; exact hh
    obtain ⟨d, hd, rfl⟩ := f_has1 hN.1 (by decide) hh2
    rcases f_bw_c c 0 9 with hb | hb
    · obtain ⟨c, hc, rfl⟩ := f_bw_0n (U := 9) hb (by decide)
      have cd : (nI d).toNatClampNeg = d := nI_clamp (by omega)
      have cc : (nI c).toNatClampNeg = c := nI_clamp (by omega)
      by_cases ht : M 12 0 d 2 = -1 ∧ M 13 0 c 1 = -1
      · simp only [e5_stake_0, e5_stake_1, e5_stake_4, e5_stake_5, e5_stake_8, e5_stake_11, e5_stake_21, e5_stake_22, e5_stake_25, e5_stake_28, e5_stake_38, e5_stake_39, e5_stake_42, e5_stake_43, e5_stake_44, e5_stake_47, e5_stake_50, e5_stake_60, e5_stake_61, e5_stake_64, e5_stake_65, e5_stake_68, e5_stake_69, e5_stake_70, e5_stake_73, e5_stake_74, e5_stake_77, e5_stake_80, m_k7, s_hasD 0 (by decide), hh, hb, s_isClaim, s_canTake 0 (by decide) d c (by omega) (by omega), ht.1, ht.2, and_self, cd, cc, a_save hI, s_take 0 (by decide) d c (by omega) (by omega), s_taken 0 (by decide), m_cE_i, m_cE_v, m_cE_ite, m_kill, (by decide : ¬ (1 : Int32) = 0), if_true, if_false, not_false_eq_true]
      · simp only [e5_stake_0, e5_stake_1, e5_stake_4, e5_stake_5, e5_stake_8, e5_stake_11, e5_stake_21, e5_stake_22, e5_stake_25, e5_stake_28, e5_stake_38, e5_stake_39, e5_stake_42, e5_stake_43, e5_stake_44, e5_stake_47, e5_stake_50, e5_stake_60, e5_stake_61, e5_stake_64, e5_stake_65, e5_stake_68, e5_stake_69, e5_stake_70, e5_stake_73, e5_stake_74, e5_stake_77, e5_stake_80, m_k7, s_hasD 0 (by decide), hh, hb, s_isClaim, s_canTake 0 (by decide) d c (by omega) (by omega), ht, cd, cc, m_cE_i, m_cE_v, m_cE_ite, m_kill, (by decide : ¬ (1 : Int32) = 0), if_true, if_false, not_false_eq_true]
    · simp only [e5_stake_0, e5_stake_1, e5_stake_4, e5_stake_5, e5_stake_8, e5_stake_11, e5_stake_21, e5_stake_22, e5_stake_25, e5_stake_28, e5_stake_38, e5_stake_39, e5_stake_42, e5_stake_43, e5_stake_44, e5_stake_47, e5_stake_50, e5_stake_60, e5_stake_61, e5_stake_64, e5_stake_65, e5_stake_68, e5_stake_69, e5_stake_70, e5_stake_73, e5_stake_74, e5_stake_77, e5_stake_80, m_k7, s_hasD 0 (by decide), hh, hb, s_isClaim, m_cE_i, m_cE_v, m_cE_ite, m_kill, (by decide : ¬ (1 : Int32) = 0), if_true, if_false, not_false_eq_true]
  · simp only [e5_stake_0, e5_stake_1, e5_stake_4, e5_stake_5, e5_stake_8, e5_stake_11, e5_stake_21, e5_stake_22, e5_stake_25, e5_stake_28, e5_stake_38, e5_stake_39, e5_stake_42, e5_stake_43, e5_stake_44, e5_stake_47, e5_stake_50, e5_stake_60, e5_stake_61, e5_stake_64, e5_stake_65, e5_stake_68, e5_stake_69, e5_stake_70, e5_stake_73, e5_stake_74, e5_stake_77, e5_stake_80, m_k7, s_hasD 0 (by decide), hh, m_cE_i, m_cE_v, m_cE_ite, m_kill, if_true, if_false, not_false_eq_true]
/-- every taken claim's owner is a digger -/
def f_O (M : m_Mem) (N : Nat) : Prop := ∀ c, c < 10 → M 13 0 c 1 = -1 ∨ ∃ d, d < N ∧ M 13 0 c 1 = nI d
/-- a digger's claim is none or one that is his -/
def f_D (M : m_Mem) (N : Nat) : Prop := ∀ d, d < N → M 12 0 d 2 = -1 ∨ ∃ c, c < 10 ∧ M 12 0 d 2 = nI c ∧ M 13 0 c 1 = nI d
theorem a_leave (hI : f_I M n N B) (hD : f_D M N) (d : Int32) : m_cl 56 [.ref (m_lc 1 0 0), .int d] M =
    if f_has d (M 7 0 0 5) 8 = 0 then some (.inr "java/lang/IndexOutOfBoundsException", M) else if M 12 0 d.toNatClampNeg 2 = -1 then some (.inr "java/lang/IllegalStateException", M)
    else some (.inl (some (.int (M 12 0 d.toNatClampNeg 2))), f_give (m_set (f_sv M n) 12 0 d.toNatClampNeg 2 (-1)) 0 (M 12 0 d.toNatClampNeg 2).toNatClampNeg (-1)) := by
  have hN := hI.2.1
  rw [e5_leave_en]
  rcases f_has_c d (M 7 0 0 5) 8 with hh | hh
  · have hh2 : f_has d (nI N) (nI 8) = 1 := by rw [← hN.2]; exact hh
    obtain ⟨d, hd, rfl⟩ := f_has1 hN.1 (by decide) hh2
    have cd : (nI d).toNatClampNeg = d := nI_clamp (by omega)
    have h12 := m_d12 (j := 0) (d := d) (by decide) (by omega)
    have hd8 : d < 8 := by omega
    rcases hD d hd with ho | ⟨c, hc, ho, hw⟩
    · have hb : f_bw (-1) 0 9 = 0 := by decide
      simp only [e5_leave_0, e5_leave_1, e5_leave_4, e5_leave_5, e5_leave_8, e5_leave_11, e5_leave_21, e5_leave_22, e5_leave_25, e5_leave_28, e5_leave_29, e5_leave_30, e5_leave_33, e5_leave_34, e5_leave_35, e5_leave_38, e5_leave_41, e5_leave_51, e5_leave_52, e5_leave_55, e5_leave_56, e5_leave_59, e5_leave_60, e5_leave_63, e5_leave_64, m_k7, m_k8, h12, hd8, s_hasD 0 (by decide), hh, cd, ho, hb, s_isClaim, m_cE_i, m_cE_v, m_cE_ite, m_kill, (by decide : ¬ (1 : Int32) = 0), if_true, if_false, not_false_eq_true]
    · have hb : f_bw (nI c) 0 9 = 1 := f_bw1 ⟨nI_pos' (by omega), (nI_le (by omega) (by decide) : nI c ≤ nI 9)⟩
      have hne : ¬ nI c = -1 := fun q => by
        have := nI_pos' (n := c) (by omega)
        rw [q] at this
        exact absurd this (by decide)
      have cc : (nI c).toNatClampNeg = c := nI_clamp (by omega)
      have ew : f_sv M n 13 0 c 1 = nI d := by rw [f_sv_o M n 13 0 c 1 (by decide) (by decide) (by decide)]; exact hw
      have e75 : f_sv M n 7 0 0 5 = nI N := by rw [f_sv_o M n 7 0 0 5 (by decide) (by decide) (by decide)]; exact hN.2
      have hr := s_release 0 (by decide) d c hd8 hc (f_sv M n) ew (by rw [e75]; exact nI_lt hd (by omega))
      simp only [e5_leave_0, e5_leave_1, e5_leave_4, e5_leave_5, e5_leave_8, e5_leave_11, e5_leave_21, e5_leave_22, e5_leave_25, e5_leave_28, e5_leave_29, e5_leave_30, e5_leave_33, e5_leave_34, e5_leave_35, e5_leave_38, e5_leave_41, e5_leave_51, e5_leave_52, e5_leave_55, e5_leave_56, e5_leave_59, e5_leave_60, e5_leave_63, e5_leave_64, m_k7, m_k8, h12, hd8, s_hasD 0 (by decide), hh, cd, cc, ho, hb, hne, s_isClaim, a_save hI, hr, m_cE_i, m_cE_v, m_cE_ite, m_kill, (by decide : ¬ (1 : Int32) = 0), if_true, if_false, not_false_eq_true]
  · simp only [e5_leave_0, e5_leave_1, e5_leave_4, e5_leave_5, e5_leave_8, e5_leave_11, e5_leave_21, e5_leave_22, e5_leave_25, e5_leave_28, e5_leave_29, e5_leave_30, e5_leave_33, e5_leave_34, e5_leave_35, e5_leave_38, e5_leave_41, e5_leave_51, e5_leave_52, e5_leave_55, e5_leave_56, e5_leave_59, e5_leave_60, e5_leave_63, e5_leave_64, m_k7, s_hasD 0 (by decide), hh, m_cE_i, m_cE_v, m_cE_ite, m_kill, if_true, if_false, not_false_eq_true]
theorem a_vein (hI : f_I M n N B) (c f : Int32) : m_cl 57 [.ref (m_lc 1 0 0), .int c, .int f] M =
    if f_bw c 0 9 = 0 then some (.inr "java/lang/IllegalArgumentException", M) else if f_bw f 500 1000 = 0 then some (.inr "java/lang/IllegalArgumentException", M)
    else some (.inl (some (.int (M 13 0 c.toNatClampNeg 0))), m_set (f_sv M n) 13 0 c.toNatClampNeg 0 f) := by
  rw [e5_vein_en]
  rcases f_bw_c c 0 9 with hb | hb
  · obtain ⟨c, hc, rfl⟩ := f_bw_0n (U := 9) hb (by decide)
    have cc : (nI c).toNatClampNeg = c := nI_clamp (by omega)
    have hc10 : c < 10 := by omega
    have h13 := m_d13 (j := 0) (c := c) (by decide) hc10
    have e13 : f_sv M n 13 0 c 0 = M 13 0 c 0 := f_sv_o M n 13 0 c 0 (by decide) (by decide) (by decide)
    rcases f_bw_c f 500 1000 with hf | hf
    · simp only [e5_vein_0, e5_vein_1, e5_vein_4, e5_vein_7, e5_vein_17, e5_vein_18, e5_vein_21, e5_vein_24, e5_vein_27, e5_vein_30, e5_vein_40, e5_vein_41, e5_vein_44, e5_vein_45, e5_vein_48, e5_vein_51, e5_vein_52, e5_vein_53, e5_vein_56, e5_vein_57, e5_vein_58, e5_vein_61, e5_vein_64, e5_vein_65, e5_vein_66, e5_vein_67, e5_vein_70, e5_vein_71, m_k7, m_k9, h13, hc10, hb, hf, cc, e13, s_isClaim, s_betw, a_save hI, m_cE_i, m_cE_v, m_cE_ite, m_kill, (by decide : ¬ (1 : Int32) = 0), if_true, if_false, not_false_eq_true]
    · simp only [e5_vein_0, e5_vein_1, e5_vein_4, e5_vein_7, e5_vein_17, e5_vein_18, e5_vein_21, e5_vein_24, e5_vein_27, e5_vein_30, e5_vein_40, e5_vein_41, e5_vein_44, e5_vein_45, e5_vein_48, e5_vein_51, e5_vein_52, e5_vein_53, e5_vein_56, e5_vein_57, e5_vein_58, e5_vein_61, e5_vein_64, e5_vein_65, e5_vein_66, e5_vein_67, e5_vein_70, e5_vein_71, hb, hf, s_isClaim, s_betw, m_cE_i, m_cE_v, m_cE_ite, m_kill, (by decide : ¬ (1 : Int32) = 0), if_true, if_false, not_false_eq_true]
  · simp only [e5_vein_0, e5_vein_1, e5_vein_4, e5_vein_7, e5_vein_17, e5_vein_18, e5_vein_21, e5_vein_24, e5_vein_27, e5_vein_30, e5_vein_40, e5_vein_41, e5_vein_44, e5_vein_45, e5_vein_48, e5_vein_51, e5_vein_52, e5_vein_53, e5_vein_56, e5_vein_57, e5_vein_58, e5_vein_61, e5_vein_64, e5_vein_65, e5_vein_66, e5_vein_67, e5_vein_70, e5_vein_71, hb, s_isClaim, m_cE_i, m_cE_v, m_cE_ite, m_kill, if_true, if_false, not_false_eq_true]
theorem a_weigh (hI : f_I M n N B) (hD : f_D M N) (d g : Int32) : m_cl 58 [.ref (m_lc 1 0 0), .int d, .int g] M =
    if f_has d (M 7 0 0 5) 8 = 0 then some (.inr "java/lang/IndexOutOfBoundsException", M) else if f_bw g 1 9999 = 0 then some (.inr "java/lang/IllegalArgumentException", M)
    else if ¬ M 12 0 d.toNatClampNeg 2 = -1 ∧ M 14 0 12 0 + g ≤ 99999 then some (.inl (some (.int (f_pay (f_sv M n) 0 g))), f_wi (f_sv M n) 0 d.toNatClampNeg (M 12 0 d.toNatClampNeg 2).toNatClampNeg g)
    else some (.inr "java/lang/IllegalStateException", M) := by
  have hN := hI.2.1
  rw [e5_weigh_en]
  rcases f_has_c d (M 7 0 0 5) 8 with hh | hh
  · have hh2 : f_has d (nI N) (nI 8) = 1 := by rw [← hN.2]; exact hh
    obtain ⟨d, hd, rfl⟩ := f_has1 hN.1 (by decide) hh2
    have cd : (nI d).toNatClampNeg = d := nI_clamp (by omega)
    have hd8 : d < 8 := by omega
    rcases f_bw_c g 1 9999 with hg | hg
    · rcases hD d hd with ho | ⟨c, hc, ho, hw⟩
      · have hb : f_bw (-1) 0 9 = 0 := by decide
        simp only [e5_weigh_0, e5_weigh_1, e5_weigh_4, e5_weigh_5, e5_weigh_8, e5_weigh_11, e5_weigh_21, e5_weigh_22, e5_weigh_25, e5_weigh_28, e5_weigh_38, e5_weigh_39, e5_weigh_42, e5_weigh_43, e5_weigh_44, e5_weigh_47, e5_weigh_50, e5_weigh_60, e5_weigh_61, e5_weigh_64, e5_weigh_65, e5_weigh_68, e5_weigh_69, e5_weigh_70, e5_weigh_73, m_k7, s_hasD 0 (by decide), hh, hg, cd, ho, hb, s_isAmount, s_canWeigh 0 (by decide) d hd8, m_cE_i, m_cE_v, m_cE_ite, m_kill, (by decide : ¬ (1 : Int32) = 0), (by decide : ¬ (0 : Int32) = 1), not_true_eq_false, false_and, if_true, if_false, not_false_eq_true]
      · have hb : f_bw (nI c) 0 9 = 1 := f_bw1 ⟨nI_pos' (by omega), (nI_le (by omega) (by decide) : nI c ≤ nI 9)⟩
        have hne : ¬ nI c = -1 := fun q => by
          have := nI_pos' (n := c) (by omega)
          rw [q] at this
          exact absurd this (by decide)
        have cc : (nI c).toNatClampNeg = c := nI_clamp (by omega)
        have e12 : f_sv M n 12 0 d 2 = nI c := by rw [f_sv_o M n 12 0 d 2 (by decide) (by decide) (by decide)]; exact ho
        have hr := s_wi 0 (by decide) d c hd8 hc g (f_sv M n) e12
        by_cases hl : M 14 0 12 0 + g ≤ 99999
        · simp only [e5_weigh_0, e5_weigh_1, e5_weigh_4, e5_weigh_5, e5_weigh_8, e5_weigh_11, e5_weigh_21, e5_weigh_22, e5_weigh_25, e5_weigh_28, e5_weigh_38, e5_weigh_39, e5_weigh_42, e5_weigh_43, e5_weigh_44, e5_weigh_47, e5_weigh_50, e5_weigh_60, e5_weigh_61, e5_weigh_64, e5_weigh_65, e5_weigh_68, e5_weigh_69, e5_weigh_70, e5_weigh_73, m_k7, s_hasD 0 (by decide), hh, hg, cd, cc, ho, hb, hne, hl, s_isAmount, s_canWeigh 0 (by decide) d hd8, a_save hI, hr, m_cE_i, m_cE_v, m_cE_ite, m_kill, (by decide : ¬ (1 : Int32) = 0), and_self, if_true, if_false, not_false_eq_true]
        · simp only [e5_weigh_0, e5_weigh_1, e5_weigh_4, e5_weigh_5, e5_weigh_8, e5_weigh_11, e5_weigh_21, e5_weigh_22, e5_weigh_25, e5_weigh_28, e5_weigh_38, e5_weigh_39, e5_weigh_42, e5_weigh_43, e5_weigh_44, e5_weigh_47, e5_weigh_50, e5_weigh_60, e5_weigh_61, e5_weigh_64, e5_weigh_65, e5_weigh_68, e5_weigh_69, e5_weigh_70, e5_weigh_73, m_k7, s_hasD 0 (by decide), hh, hg, cd, cc, ho, hb, hne, hl, s_isAmount, s_canWeigh 0 (by decide) d hd8, m_cE_i, m_cE_v, m_cE_ite, m_kill, (by decide : ¬ (1 : Int32) = 0), and_false, if_true, if_false, not_false_eq_true]
    · simp only [e5_weigh_0, e5_weigh_1, e5_weigh_4, e5_weigh_5, e5_weigh_8, e5_weigh_11, e5_weigh_21, e5_weigh_22, e5_weigh_25, e5_weigh_28, e5_weigh_38, e5_weigh_39, e5_weigh_42, e5_weigh_43, e5_weigh_44, e5_weigh_47, e5_weigh_50, e5_weigh_60, e5_weigh_61, e5_weigh_64, e5_weigh_65, e5_weigh_68, e5_weigh_69, e5_weigh_70, e5_weigh_73, m_k7, s_hasD 0 (by decide), hh, hg, s_isAmount, m_cE_i, m_cE_v, m_cE_ite, m_kill, (by decide : ¬ (1 : Int32) = 0), if_true, if_false, not_false_eq_true]
  · simp only [e5_weigh_0, e5_weigh_1, e5_weigh_4, e5_weigh_5, e5_weigh_8, e5_weigh_11, e5_weigh_21, e5_weigh_22, e5_weigh_25, e5_weigh_28, e5_weigh_38, e5_weigh_39, e5_weigh_42, e5_weigh_43, e5_weigh_44, e5_weigh_47, e5_weigh_50, e5_weigh_60, e5_weigh_61, e5_weigh_64, e5_weigh_65, e5_weigh_68, e5_weigh_69, e5_weigh_70, e5_weigh_73, m_k7, s_hasD 0 (by decide), hh, m_cE_i, m_cE_v, m_cE_ite, m_kill, if_true, if_false, not_false_eq_true]
theorem a_buy (hI : f_I M n N B) (d g : Int32) : m_cl 59 [.ref (m_lc 1 0 0), .int d, .int g] M =
    if f_has d (M 7 0 0 5) 8 = 0 then some (.inr "java/lang/IndexOutOfBoundsException", M) else if f_bw g 1 9999 = 0 then some (.inr "java/lang/IllegalArgumentException", M)
    else if f_da M 0 d.toNatClampNeg g ≤ 5000 then some (.inl (some (.int (f_sp (f_sv M n) 0 d.toNatClampNeg g 12 0 d.toNatClampNeg 1))), f_sp (f_sv M n) 0 d.toNatClampNeg g)
    else some (.inr "java/lang/IllegalStateException", M) := by
  have hN := hI.2.1
  rw [e5_buy_en]
  rcases f_has_c d (M 7 0 0 5) 8 with hh | hh
  · have hh2 : f_has d (nI N) (nI 8) = 1 := by rw [← hN.2]; exact hh
    obtain ⟨d, hd, rfl⟩ := f_has1 hN.1 (by decide) hh2
    have cd : (nI d).toNatClampNeg = d := nI_clamp (by omega)
    have hd8 : d < 8 := by omega
    have h12 := m_d12 (j := 0) (d := d) (by decide) (by omega)
    rcases f_bw_c g 1 9999 with hg | hg
    · by_cases hl : f_da M 0 d g ≤ 5000
      · simp only [e5_buy_0, e5_buy_1, e5_buy_4, e5_buy_5, e5_buy_8, e5_buy_11, e5_buy_21, e5_buy_22, e5_buy_25, e5_buy_28, e5_buy_38, e5_buy_39, e5_buy_42, e5_buy_43, e5_buy_44, e5_buy_47, e5_buy_50, e5_buy_60, e5_buy_61, e5_buy_64, e5_buy_65, e5_buy_68, e5_buy_69, e5_buy_70, e5_buy_73, e5_buy_74, e5_buy_77, e5_buy_80, e5_buy_81, e5_buy_82, e5_buy_85, m_k7, m_k8, h12, hd8, s_hasD 0 (by decide), hh, hg, cd, hl, s_isAmount, s_canSell 0 (by decide) d hd8, s_sell 0 (by decide) d hd8, a_save hI, m_cE_i, m_cE_v, m_cE_ite, m_kill, (by decide : ¬ (1 : Int32) = 0), if_true, if_false, not_false_eq_true]
      · simp only [e5_buy_0, e5_buy_1, e5_buy_4, e5_buy_5, e5_buy_8, e5_buy_11, e5_buy_21, e5_buy_22, e5_buy_25, e5_buy_28, e5_buy_38, e5_buy_39, e5_buy_42, e5_buy_43, e5_buy_44, e5_buy_47, e5_buy_50, e5_buy_60, e5_buy_61, e5_buy_64, e5_buy_65, e5_buy_68, e5_buy_69, e5_buy_70, e5_buy_73, e5_buy_74, e5_buy_77, e5_buy_80, e5_buy_81, e5_buy_82, e5_buy_85, m_k7, s_hasD 0 (by decide), hh, hg, cd, hl, s_isAmount, s_canSell 0 (by decide) d hd8, m_cE_i, m_cE_v, m_cE_ite, m_kill, (by decide : ¬ (1 : Int32) = 0), if_true, if_false, not_false_eq_true]
    · simp only [e5_buy_0, e5_buy_1, e5_buy_4, e5_buy_5, e5_buy_8, e5_buy_11, e5_buy_21, e5_buy_22, e5_buy_25, e5_buy_28, e5_buy_38, e5_buy_39, e5_buy_42, e5_buy_43, e5_buy_44, e5_buy_47, e5_buy_50, e5_buy_60, e5_buy_61, e5_buy_64, e5_buy_65, e5_buy_68, e5_buy_69, e5_buy_70, e5_buy_73, e5_buy_74, e5_buy_77, e5_buy_80, e5_buy_81, e5_buy_82, e5_buy_85, m_k7, s_hasD 0 (by decide), hh, hg, s_isAmount, m_cE_i, m_cE_v, m_cE_ite, m_kill, (by decide : ¬ (1 : Int32) = 0), if_true, if_false, not_false_eq_true]
  · simp only [e5_buy_0, e5_buy_1, e5_buy_4, e5_buy_5, e5_buy_8, e5_buy_11, e5_buy_21, e5_buy_22, e5_buy_25, e5_buy_28, e5_buy_38, e5_buy_39, e5_buy_42, e5_buy_43, e5_buy_44, e5_buy_47, e5_buy_50, e5_buy_60, e5_buy_61, e5_buy_64, e5_buy_65, e5_buy_68, e5_buy_69, e5_buy_70, e5_buy_73, e5_buy_74, e5_buy_77, e5_buy_80, e5_buy_81, e5_buy_82, e5_buy_85, m_k7, s_hasD 0 (by decide), hh, m_cE_i, m_cE_v, m_cE_ite, m_kill, if_true, if_false, not_false_eq_true]
theorem a_melt (hI : f_I M n N B) : m_cl 60 [.ref (m_lc 1 0 0)] M =
    if 0 < M 14 0 12 0 ∧ B < 12 then some (.inl (some (.int (nI B))), f_melt (f_sv M n) 0 B) else some (.inr "java/lang/IllegalStateException", M) := by
  have hB := hI.2.2.1
  rw [e5_melt_en]
  have h0 : 0 ≤ nI B := nI_pos' (by omega)
  by_cases h1 : 0 < M 14 0 12 0
  · by_cases h2 : B < 12
    · have h3 : nI B < 12 := (nI_lt h2 (by decide) : nI B < nI 12)
      have e : f_sv M n 7 0 0 6 = nI B := by rw [f_sv_o M n 7 0 0 6 (by decide) (by decide) (by decide)]; exact hB.2
      have em : f_melt (f_sv M n) 0 B 7 0 0 6 = nI (B + 1) := by
        unfold f_melt
        rw [m_set_n (fun q => absurd q.1 (by decide)), m_set_n (fun q => absurd q.1 (by decide)), m_set_n (fun q => absurd q.1 (by decide)), m_set_i]
      simp only [e5_melt_0, e5_melt_1, e5_melt_4, e5_melt_7, e5_melt_10, e5_melt_20, e5_melt_21, e5_melt_24, e5_melt_25, e5_melt_28, e5_melt_31, e5_melt_32, e5_melt_35, e5_melt_38, e5_melt_39, e5_melt_40, m_k7, s_canMelt 0 (by decide), hB.2, h0, h1, h2, h3, a_save hI, s_melt 0 (by decide) B h2 _ e, em, nI_pred, m_cE_i, m_cE_v, m_cE_ite, m_kill, (by decide : ¬ (1 : Int32) = 0), and_self, if_true, if_false, not_false_eq_true]
    · have h3 : ¬ nI B < 12 := (nI_nlt (by omega) (by omega) : ¬ nI B < nI 12)
      simp only [e5_melt_0, e5_melt_1, e5_melt_4, e5_melt_7, e5_melt_10, e5_melt_20, e5_melt_21, e5_melt_24, e5_melt_25, e5_melt_28, e5_melt_31, e5_melt_32, e5_melt_35, e5_melt_38, e5_melt_39, e5_melt_40, m_k7, s_canMelt 0 (by decide), hB.2, h0, h1, h2, h3, m_cE_i, m_cE_v, m_cE_ite, m_kill, and_false, if_true, if_false, not_false_eq_true]
  · simp only [e5_melt_0, e5_melt_1, e5_melt_4, e5_melt_7, e5_melt_10, e5_melt_20, e5_melt_21, e5_melt_24, e5_melt_25, e5_melt_28, e5_melt_31, e5_melt_32, e5_melt_35, e5_melt_38, e5_melt_39, e5_melt_40, m_k7, s_canMelt 0 (by decide), h1, m_cE_i, m_cE_v, m_cE_ite, m_kill, false_and, if_true, if_false, not_false_eq_true]
end API
