/-! THE MODEL's own methods: settings, the text's signs, snapshots. -/
section MAPI3
variable {M : m_Mem} {p N B : Nat}
theorem g_least (t : Nat) (ht : t < 5) (M : m_Mem) : m_cl 142 [.int (nI t)] M = some (.inl (some (.int (m_s24 t))), M) := by
  rw [e6_leastOf_en]
  have hk : t = 0 ∨ t = 1 ∨ t = 2 ∨ t = 3 ∨ t = 4 := by omega
  rcases hk with rfl | rfl | rfl | rfl | rfl
  all_goals simp (config := { decide := true }) only [e6_leastOf_0, e6_leastOf_1, e6_leastOf_4, e6_leastOf_7, e6_leastOf_10, e6_leastOf_11, e6_leastOf_12, e6_leastOf_15, e6_leastOf_16, e6_leastOf_19, e6_leastOf_20, if_true, if_false, m_s24]
theorem g_most (t : Nat) (ht : t < 5) (M : m_Mem) : m_cl 143 [.int (nI t)] M = some (.inl (some (.int (m_s25 t))), M) := by
  rw [e6_mostOf_en]
  have hk : t = 0 ∨ t = 1 ∨ t = 2 ∨ t = 3 ∨ t = 4 := by omega
  rcases hk with rfl | rfl | rfl | rfl | rfl
  all_goals simp (config := { decide := true }) only [e6_mostOf_0, e6_mostOf_1, e6_mostOf_32, e6_mostOf_35, e6_mostOf_36, e6_mostOf_39, e6_mostOf_40, e6_mostOf_42, e6_mostOf_43, e6_mostOf_45, e6_mostOf_46, e6_mostOf_48, if_true, if_false, m_s25]
theorem h_set (hJ : k_J M p N B) (t v : Int32) : m_cl 144 [.ref (m_lc 15 0 0), .int t, .int v] M =
    if f_bw t 0 4 = 0 then k_x M 1 else if f_bw v (m_s24 t.toNatClampNeg) (m_s25 t.toNatClampNeg) = 0 then k_x M 2
    else some (.inl (some (.int (M 16 0 0 (8 + t.toNatClampNeg)))), m_set (k_sv (k_0 M) p) 16 0 0 (8 + t.toNatClampNeg) v) := by
  rw [e6_set_en]
  rcases f_bw_c t 0 4 with hb | hb
  · obtain ⟨t, ht, rfl⟩ := f_bw_0n (U := 4) hb (by decide)
    have ct : (nI t).toNatClampNeg = t := nI_clamp (by omega)
    have hix : 8 + t < 173 := by omega
    rcases f_bw_c v (m_s24 t) (m_s25 t) with hf | hf
    · simp only [e6_set_0, e6_set_1, e6_set_2, e6_set_5, e6_set_6, e6_set_7, e6_set_8, e6_set_11, e6_set_14, e6_set_15, e6_set_16, e6_set_19, e6_set_20, e6_set_21, e6_set_22, e6_set_25, e6_set_26, e6_set_29, e6_set_32, e6_set_35, e6_set_36, e6_set_37, e6_set_40, e6_set_41, e6_set_42, e6_set_45, e6_set_46, e6_set_49, e6_set_51, e6_set_52, e6_set_53, e6_set_54, e6_set_55, e6_set_56, e6_set_59, e6_set_61, e6_set_62, e6_set_63, e6_set_64, e6_set_65, e6_set_66, k_0_e, g_in, hb, hf, ct, g_least t (by omega), g_most t (by omega), k_svs hJ, k_sv16, g_a8, hix, m_kill, m_cE_i, m_cE_v, m_cE_ite, m_kill, (by decide : ¬ (1 : Int32) = 0), ne_eq, if_true, if_false, not_false_eq_true]
    · simp only [e6_set_0, e6_set_1, e6_set_2, e6_set_5, e6_set_6, e6_set_7, e6_set_8, e6_set_11, e6_set_14, e6_set_15, e6_set_16, e6_set_19, e6_set_20, e6_set_21, e6_set_22, e6_set_25, e6_set_26, e6_set_29, e6_set_32, e6_set_35, e6_set_36, e6_set_37, e6_set_40, e6_set_41, e6_set_42, e6_set_45, e6_set_46, e6_set_49, e6_set_51, e6_set_52, e6_set_53, e6_set_54, e6_set_55, e6_set_56, e6_set_59, e6_set_61, e6_set_62, e6_set_63, e6_set_64, e6_set_65, e6_set_66, k_0_e, g_in, hb, hf, ct, g_least t (by omega), g_most t (by omega), g_fails, k_x, m_kill, m_cE_i, m_cE_v, m_cE_ite, m_kill, (by decide : ¬ (1 : Int32) = 0), ne_eq, if_true, if_false, not_false_eq_true]
  · simp only [e6_set_0, e6_set_1, e6_set_2, e6_set_5, e6_set_6, e6_set_7, e6_set_8, e6_set_11, e6_set_14, e6_set_15, e6_set_16, e6_set_19, e6_set_20, e6_set_21, e6_set_22, e6_set_25, e6_set_26, e6_set_29, e6_set_32, e6_set_35, e6_set_36, e6_set_37, e6_set_40, e6_set_41, e6_set_42, e6_set_45, e6_set_46, e6_set_49, e6_set_51, e6_set_52, e6_set_53, e6_set_54, e6_set_55, e6_set_56, e6_set_59, e6_set_61, e6_set_62, e6_set_63, e6_set_64, e6_set_65, e6_set_66, k_0_e, g_in, hb, g_fails, k_x, m_kill, m_cE_i, m_cE_v, m_cE_ite, m_kill, ne_eq, if_true, if_false, not_false_eq_true]
theorem h_append (L : Nat) (hL : L ≤ 60) (hl : M 15 0 0 7 = nI L) (v : Int32) : m_cl 145 [.ref (m_lc 15 0 0), .int v] M =
    if f_bw v 33 126 = 0 then k_x M 1 else if L < 60 then some (.inl (some (.int (nI (L + 1)))), m_set (m_set (k_0 M) 20 0 0 L v) 15 0 0 7 (nI (L + 1))) else k_x M 2 := by
  have e7 : k_0 M 15 0 0 7 = nI L := by rw [k_0_o _ _ _ _ _ (by decide)]; exact hl
  rw [e6_append_en]
  rcases f_bw_c v 33 126 with hb | hb
  · by_cases h : L < 60
    · have hne : ¬ nI L = 60 := fun q => by have := (nI_eq (a := L) (b := 60) (by omega) (by decide)).mp q; omega
      have e7b : ∀ x, m_set (k_0 M) 20 0 0 L x 15 0 0 7 = nI L := fun x => by rw [m_set_n (fun q => absurd q.1 (by decide))]; exact e7
      simp only [e6_append_0, e6_append_1, e6_append_2, e6_append_5, e6_append_6, e6_append_8, e6_append_10, e6_append_13, e6_append_16, e6_append_17, e6_append_18, e6_append_21, e6_append_22, e6_append_23, e6_append_26, e6_append_28, e6_append_31, e6_append_32, e6_append_33, e6_append_36, e6_append_37, e6_append_38, e6_append_41, e6_append_42, e6_append_45, e6_append_46, e6_append_47, e6_append_48, e6_append_49, e6_append_52, e6_append_53, e6_append_54, e6_append_57, e6_append_58, e6_append_61, k_0_e, g_in, hb, e7, e7b, hne, h, nI_1, m_set_i, m_kill, m_cE_i, m_cE_v, m_cE_ite, m_kill, (by decide : ¬ (1 : Int32) = 0), ne_eq, if_true, if_false, not_false_eq_true]
    · have e : L = 60 := by omega
      subst e
      simp only [e6_append_0, e6_append_1, e6_append_2, e6_append_5, e6_append_6, e6_append_8, e6_append_10, e6_append_13, e6_append_16, e6_append_17, e6_append_18, e6_append_21, e6_append_22, e6_append_23, e6_append_26, e6_append_28, e6_append_31, e6_append_32, e6_append_33, e6_append_36, e6_append_37, e6_append_38, e6_append_41, e6_append_42, e6_append_45, e6_append_46, e6_append_47, e6_append_48, e6_append_49, e6_append_52, e6_append_53, e6_append_54, e6_append_57, e6_append_58, e6_append_61, k_0_e, g_in, hb, e7, eq_true (by decide : nI 60 = 60), h, g_fails, k_x, m_kill, m_cE_i, m_cE_v, m_cE_ite, m_kill, (by decide : ¬ (1 : Int32) = 0), ne_eq, not_true_eq_false, if_true, if_false, not_false_eq_true]
  · simp only [e6_append_0, e6_append_1, e6_append_2, e6_append_5, e6_append_6, e6_append_8, e6_append_10, e6_append_13, e6_append_16, e6_append_17, e6_append_18, e6_append_21, e6_append_22, e6_append_23, e6_append_26, e6_append_28, e6_append_31, e6_append_32, e6_append_33, e6_append_36, e6_append_37, e6_append_38, e6_append_41, e6_append_42, e6_append_45, e6_append_46, e6_append_47, e6_append_48, e6_append_49, e6_append_52, e6_append_53, e6_append_54, e6_append_57, e6_append_58, e6_append_61, k_0_e, g_in, hb, g_fails, k_x, m_kill, m_cE_i, m_cE_v, m_cE_ite, m_kill, ne_eq, if_true, if_false, not_false_eq_true]
theorem h_clear : m_cl 146 [.ref (m_lc 15 0 0)] M = some (.inl (some (.int (M 15 0 0 7))), m_set (k_0 M) 15 0 0 7 0) := by
  have e7 : k_0 M 15 0 0 7 = M 15 0 0 7 := k_0_o _ _ _ _ _ (by decide)
  rw [e6_clearBuffer_en]
  simp only [e6_clearBuffer_0, e6_clearBuffer_1, e6_clearBuffer_2, e6_clearBuffer_5, e6_clearBuffer_6, e6_clearBuffer_9, e6_clearBuffer_10, e6_clearBuffer_11, e6_clearBuffer_12, e6_clearBuffer_15, e6_clearBuffer_16, k_0_e, e7, m_kill, m_cE_i, m_cE_v, m_cE_ite, m_kill]
theorem g_keep_l (t : Nat) (ht : t < 2) : ∀ (k i : Nat), i + k = 173 → m_E 154 22 [some (.ref (m_lc 15 0 0)), some (.int (nI t)), some (.int (nI i))] [] (k_bl M 18 (173 * t) 16 0 i) = some (.inl (some (.int (M 16 0 0 0))), m_set (k_bl M 18 (173 * t) 16 0 173) 19 0 0 t 1) := by
  intro k
  induction k with
  | zero =>
    intro i hi
    have e : i = 173 := by omega
    subst e
    have e0 : ∀ x, m_set (k_bl M 18 (173 * t) 16 0 173) 19 0 0 t x 16 0 0 0 = M 16 0 0 0 := fun x => by
      rw [m_set_n (fun q => absurd q.1 (by decide)), k_bl_o _ _ _ _ _ _ _ _ _ _ (by decide)]
    simp only [e6_keep_22, e6_keep_23, e6_keep_26, e6_keep_29, e6_keep_30, e6_keep_33, e6_keep_36, e6_keep_37, e6_keep_38, e6_keep_39, e6_keep_40, e6_keep_41, e6_keep_44, e6_keep_45, e6_keep_46, e6_keep_47, e6_keep_50, e6_keep_53, e6_keep_54, e6_keep_57, e6_keep_58, e6_keep_59, e6_keep_60, e6_keep_61, e6_keep_64, e6_keep_65, e6_keep_66, (by decide : (173 : Int32) ≤ nI 173), ht, m_nb1, e0, if_true]
  | succ k ih =>
    intro i hi
    have hlt : i < 173 := by omega
    have hlt2 : 173 * t + i < 346 := by omega
    have hle : ¬ (173 : Int32) ≤ nI i := nI_ge (b := 173) (by omega) (by decide)
    have e2 : k_bl M 18 (173 * t) 16 0 i 16 0 0 i = M 16 0 0 (0 + i) := by rw [k_bl_r _ _ _ _ _ _ _ (Or.inl (by decide)), Nat.zero_add]
    have e3 := k_bl_s M 18 (173 * t) 16 0 i
    rw [e6_keep_22]
    simp only [e6_keep_23, e6_keep_26, e6_keep_29, e6_keep_30, e6_keep_33, e6_keep_36, e6_keep_37, e6_keep_38, e6_keep_39, e6_keep_40, e6_keep_41, e6_keep_44, e6_keep_45, e6_keep_46, e6_keep_47, e6_keep_50, hle, hlt, hlt2, g_x173, nI_add, e2, e3, if_false, nI_1]
    exact ih (i + 1) (by omega)
theorem h_keep (t : Int32) : m_cl 154 [.ref (m_lc 15 0 0), .int t] M =
    if f_bw t 0 1 = 0 then k_x M 1 else some (.inl (some (.int (M 16 0 0 0))), m_set (k_bl (k_0 M) 18 (173 * t.toNatClampNeg) 16 0 173) 19 0 0 t.toNatClampNeg 1) := by
  rw [e6_keep_en]
  rcases f_bw_c t 0 1 with hb | hb
  · obtain ⟨t, ht, rfl⟩ := f_bw_0n (U := 1) hb (by decide)
    have ct : (nI t).toNatClampNeg = t := nI_clamp (by omega)
    have L := g_keep_l (M := k_0 M) t (by omega) 173 0 rfl
    rw [k_bl_0, k_0_16] at L
    simp only [e6_keep_0, e6_keep_1, e6_keep_2, e6_keep_5, e6_keep_6, e6_keep_7, e6_keep_8, e6_keep_11, e6_keep_14, e6_keep_15, e6_keep_16, e6_keep_19, e6_keep_20, e6_keep_21, k_0_e, g_in, hb, ct, m_kill, m_cE_i, m_cE_v, m_cE_ite, m_kill, (by decide : ¬ (1 : Int32) = 0), ne_eq, if_true, if_false, not_false_eq_true]
    exact L
  · simp only [e6_keep_0, e6_keep_1, e6_keep_2, e6_keep_5, e6_keep_6, e6_keep_7, e6_keep_8, e6_keep_11, e6_keep_14, e6_keep_15, e6_keep_16, e6_keep_19, e6_keep_20, e6_keep_21, k_0_e, g_in, hb, g_fails, k_x, m_kill, m_cE_i, m_cE_v, m_cE_ite, m_kill, ne_eq, if_true, if_false, not_false_eq_true]
theorem g_back_l (t : Nat) (ht : t < 2) : ∀ (k i : Nat), i + k = 173 → m_E 155 41 [some (.ref (m_lc 15 0 0)), some (.int (nI t)), some (.int (nI i))] [] (k_bl M 16 0 18 (173 * t) i) = some (.inl (some (.int (k_bl M 16 0 18 (173 * t) 173 16 0 0 0))), k_bl M 16 0 18 (173 * t) 173) := by
  intro k
  induction k with
  | zero =>
    intro i hi
    have e : i = 173 := by omega
    subst e
    simp only [e6_goBack_41, e6_goBack_42, e6_goBack_45, e6_goBack_48, e6_goBack_49, e6_goBack_52, e6_goBack_53, e6_goBack_54, e6_goBack_57, e6_goBack_60, e6_goBack_61, e6_goBack_62, e6_goBack_63, e6_goBack_64, e6_goBack_65, e6_goBack_66, e6_goBack_69, e6_goBack_72, e6_goBack_73, e6_goBack_76, e6_goBack_77, e6_goBack_78, (by decide : (173 : Int32) ≤ nI 173), if_true]
  | succ k ih =>
    intro i hi
    have hlt : i < 173 := by omega
    have hlt2 : 173 * t + i < 346 := by omega
    have hle : ¬ (173 : Int32) ≤ nI i := nI_ge (b := 173) (by omega) (by decide)
    have e2 : k_bl M 16 0 18 (173 * t) i 18 0 0 (173 * t + i) = M 18 0 0 (173 * t + i) := k_bl_r _ _ _ _ _ _ _ (Or.inl (by decide))
    have e3 := k_bl_s M 16 0 18 (173 * t) i
    rw [Nat.zero_add] at e3
    rw [e6_goBack_41]
    simp only [e6_goBack_42, e6_goBack_45, e6_goBack_48, e6_goBack_49, e6_goBack_52, e6_goBack_53, e6_goBack_54, e6_goBack_57, e6_goBack_60, e6_goBack_61, e6_goBack_62, e6_goBack_63, e6_goBack_64, e6_goBack_65, e6_goBack_66, e6_goBack_69, hle, hlt, hlt2, g_x173, nI_add, e2, e3, if_false, nI_1]
    exact ih (i + 1) (by omega)
theorem h_goBack (hJ : k_J M p N B) (t : Int32) : m_cl 155 [.ref (m_lc 15 0 0), .int t] M =
    if f_bw t 0 1 = 0 then k_x M 1 else if M 19 0 0 t.toNatClampNeg = 0 then k_x M 2
    else some (.inl (some (.int (k_bl (k_sv (k_0 M) p) 16 0 18 (173 * t.toNatClampNeg) 173 16 0 0 0))), k_bl (k_sv (k_0 M) p) 16 0 18 (173 * t.toNatClampNeg) 173) := by
  rw [e6_goBack_en]
  rcases f_bw_c t 0 1 with hb | hb
  · obtain ⟨t, ht, rfl⟩ := f_bw_0n (U := 1) hb (by decide)
    have ct : (nI t).toNatClampNeg = t := nI_clamp (by omega)
    have ht2 : t < 2 := by omega
    have e19 : k_0 M 19 0 0 t = M 19 0 0 t := k_0_o _ _ _ _ _ (fun q => absurd q.1 (by decide))
    by_cases h : M 19 0 0 t = 0
    · simp only [e6_goBack_0, e6_goBack_1, e6_goBack_2, e6_goBack_5, e6_goBack_6, e6_goBack_7, e6_goBack_8, e6_goBack_11, e6_goBack_14, e6_goBack_15, e6_goBack_16, e6_goBack_19, e6_goBack_20, e6_goBack_21, e6_goBack_24, e6_goBack_25, e6_goBack_26, e6_goBack_29, e6_goBack_30, e6_goBack_31, e6_goBack_34, e6_goBack_35, e6_goBack_36, e6_goBack_39, e6_goBack_40, k_0_e, g_in, hb, ct, ht2, e19, h, g_fails, k_x, m_kill, m_cE_i, m_cE_v, m_cE_ite, m_kill, (by decide : ¬ (1 : Int32) = 0), ne_eq, if_true, if_false, not_false_eq_true]
    · have L := g_back_l (M := k_sv (k_0 M) p) t ht2 173 0 rfl
      rw [k_bl_0] at L
      simp only [e6_goBack_0, e6_goBack_1, e6_goBack_2, e6_goBack_5, e6_goBack_6, e6_goBack_7, e6_goBack_8, e6_goBack_11, e6_goBack_14, e6_goBack_15, e6_goBack_16, e6_goBack_19, e6_goBack_20, e6_goBack_21, e6_goBack_24, e6_goBack_25, e6_goBack_26, e6_goBack_29, e6_goBack_30, e6_goBack_31, e6_goBack_34, e6_goBack_35, e6_goBack_36, e6_goBack_39, e6_goBack_40, k_0_e, g_in, hb, ct, ht2, e19, h, k_svs hJ, m_kill, m_cE_i, m_cE_v, m_cE_ite, m_kill, (by decide : ¬ (1 : Int32) = 0), ne_eq, if_true, if_false, not_false_eq_true]
      exact L
  · simp only [e6_goBack_0, e6_goBack_1, e6_goBack_2, e6_goBack_5, e6_goBack_6, e6_goBack_7, e6_goBack_8, e6_goBack_11, e6_goBack_14, e6_goBack_15, e6_goBack_16, e6_goBack_19, e6_goBack_20, e6_goBack_21, e6_goBack_24, e6_goBack_25, e6_goBack_26, e6_goBack_29, e6_goBack_30, e6_goBack_31, e6_goBack_34, e6_goBack_35, e6_goBack_36, e6_goBack_39, e6_goBack_40, k_0_e, g_in, hb, g_fails, k_x, m_kill, m_cE_i, m_cE_v, m_cE_ite, m_kill, ne_eq, if_true, if_false, not_false_eq_true]
theorem g_undo_l (q : Nat) (hq : q < 6) (hp : M 15 0 0 4 = nI q) : ∀ (k i : Nat), i + k = 173 → m_E 156 30 [some (.ref (m_lc 15 0 0)), some (.int (nI i))] [] (k_bl M 16 0 17 (173 * q) i) = some (.inl (some (.int (nI q))), k_bl M 16 0 17 (173 * q) 173) := by
  have e15 : ∀ i, k_bl M 16 0 17 (173 * q) i 15 0 0 4 = nI q := fun i => by rw [k_bl_o _ _ _ _ _ _ _ _ _ _ (by decide)]; exact hp
  intro k
  induction k with
  | zero =>
    intro i hi
    have e : i = 173 := by omega
    subst e
    simp only [e6_undo_30, e6_undo_31, e6_undo_34, e6_undo_37, e6_undo_38, e6_undo_41, e6_undo_42, e6_undo_43, e6_undo_46, e6_undo_49, e6_undo_50, e6_undo_53, e6_undo_54, e6_undo_55, e6_undo_56, e6_undo_57, e6_undo_58, e6_undo_61, e6_undo_64, e6_undo_65, e6_undo_68, (by decide : (173 : Int32) ≤ nI 173), e15, if_true]
  | succ k ih =>
    intro i hi
    have hlt : i < 173 := by omega
    have hlt2 : 173 * q + i < 1038 := by omega
    have hle : ¬ (173 : Int32) ≤ nI i := nI_ge (b := 173) (by omega) (by decide)
    have e2 : k_bl M 16 0 17 (173 * q) i 17 0 0 (173 * q + i) = M 17 0 0 (173 * q + i) := k_bl_r _ _ _ _ _ _ _ (Or.inl (by decide))
    have e3 := k_bl_s M 16 0 17 (173 * q) i
    rw [Nat.zero_add] at e3
    rw [e6_undo_30]
    simp only [e6_undo_31, e6_undo_34, e6_undo_37, e6_undo_38, e6_undo_41, e6_undo_42, e6_undo_43, e6_undo_46, e6_undo_49, e6_undo_50, e6_undo_53, e6_undo_54, e6_undo_55, e6_undo_56, e6_undo_57, e6_undo_58, e6_undo_61, hle, hlt, hlt2, e15, g_x173, nI_add, e2, e3, if_false, nI_1]
    exact ih (i + 1) (by omega)
theorem h_undo (hJ : k_J M p N B) : m_cl 156 [.ref (m_lc 15 0 0)] M =
    if p = 0 then k_x M 1 else some (.inl (some (.int (nI (p - 1)))), k_bl (m_set (k_0 M) 15 0 0 4 (nI (p - 1))) 16 0 17 (173 * (p - 1)) 173) := by
  have hJ0 := (k_J_0 hJ).1
  rw [e6_undo_en]
  by_cases h : p = 0
  · subst h
    simp only [e6_undo_0, e6_undo_1, e6_undo_2, e6_undo_5, e6_undo_6, e6_undo_9, e6_undo_12, e6_undo_13, e6_undo_14, e6_undo_17, e6_undo_18, e6_undo_19, e6_undo_20, e6_undo_23, e6_undo_24, e6_undo_25, e6_undo_28, e6_undo_29, k_0_e, hJ0.2, eq_true (by decide : nI 0 = 0), g_fails, k_x, m_kill, m_cE_i, m_cE_v, m_cE_ite, m_kill, ne_eq, not_true_eq_false, if_true, if_false, not_false_eq_true]
  · obtain ⟨q, rfl⟩ : ∃ q, p = q + 1 := ⟨p - 1, by omega⟩
    have hne : ¬ nI (q + 1) = 0 := nI_ne0 (by omega) (by omega)
    have L := g_undo_l (M := m_set (k_0 M) 15 0 0 4 (nI q)) q (by omega) m_set_i 173 0 rfl
    rw [k_bl_0] at L
    rw [if_neg h, Nat.add_sub_cancel]
    simp only [e6_undo_0, e6_undo_1, e6_undo_2, e6_undo_5, e6_undo_6, e6_undo_9, e6_undo_12, e6_undo_13, e6_undo_14, e6_undo_17, e6_undo_18, e6_undo_19, e6_undo_20, e6_undo_23, e6_undo_24, e6_undo_25, e6_undo_28, e6_undo_29, k_0_e, hJ0.2, hne, nI_pred, m_kill, m_cE_i, m_cE_v, m_cE_ite, m_kill, ne_eq, if_true, if_false, not_false_eq_true]
    exact L
end MAPI3
