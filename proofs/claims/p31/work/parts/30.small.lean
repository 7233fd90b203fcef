/-! DIGGERS, CLAIMS, GOLD: what their methods do, in equations. -/
theorem m_bl {a b : Nat} (h : a < b) : Nat.blt a b = true := Nat.ble_eq_true_of_le h
theorem m_d7 {j : Nat} (h : j < 9) : m_dom 7 j 0 = true := by
  show (Nat.blt j 9 && true) = true
  rw [m_bl h]
  rfl
theorem m_d8 {j : Nat} (h : j < 9) : m_dom 8 j 0 = true := m_d7 h
theorem m_d9 {j : Nat} (h : j < 9) : m_dom 9 j 0 = true := m_d7 h
theorem m_d10 {j : Nat} (h : j < 9) : m_dom 10 j 0 = true := m_d7 h
theorem m_d11 {j : Nat} (h : j < 9) : m_dom 11 j 0 = true := m_d7 h
theorem m_d12 {j d : Nat} (h : j < 9) (hd : d < 8) : m_dom 12 j d = true := by
  show (Nat.blt j 9 && Nat.blt d 8) = true
  rw [m_bl h, m_bl hd]
  rfl
theorem m_d13 {j c : Nat} (h : j < 9) (hc : c < 10) : m_dom 13 j c = true := by
  show (Nat.blt j 9 && Nat.blt c 10) = true
  rw [m_bl h, m_bl hc]
  rfl
theorem m_d14 {j b : Nat} (h : j < 9) (hb : b < 13) : m_dom 14 j b = true := by
  show (Nat.blt j 9 && Nat.blt b 13) = true
  rw [m_bl h, m_bl hb]
  rfl
/-- a place's slots 0 .. n - 1 become those of another place of its kind -/
def m_cp (M : m_Mem) (a b c b2 c2 : Nat) : Nat → m_Mem
  | 0 => M
  | n + 1 => m_set (m_cp M a b c b2 c2 n) a b c n (M a b2 c2 n)
theorem m_cp_o {M : m_Mem} {a b c b2 c2 : Nat} : ∀ (n a' b' c' k' : Nat), ¬ (a' = a ∧ b' = b ∧ c' = c) → m_cp M a b c b2 c2 n a' b' c' k' = M a' b' c' k'
  | 0, _, _, _, _, _ => rfl
  | n + 1, a', b', c', k', h => by
    show m_set (m_cp M a b c b2 c2 n) a b c n (M a b2 c2 n) a' b' c' k' = _
    unfold m_set
    rw [if_neg (fun q => h ⟨q.1, q.2.1, q.2.2.1⟩)]
    exact m_cp_o n a' b' c' k' h
theorem m_cp_i {M : m_Mem} {a b c b2 c2 : Nat} : ∀ (n k : Nat), k < n → m_cp M a b c b2 c2 n a b c k = M a b2 c2 k
  | 0, _, h => absurd h (Nat.not_lt_zero _)
  | n + 1, k, h => by
    show m_set (m_cp M a b c b2 c2 n) a b c n (M a b2 c2 n) a b c k = _
    unfold m_set
    by_cases e : k = n
    · subst e
      rw [if_pos ⟨rfl, rfl, rfl, rfl⟩]
    · rw [if_neg (fun q => e q.2.2.2)]
      exact m_cp_i n k (by omega)
theorem m_set_i {M : m_Mem} {a b c k : Nat} {v : Int32} : m_set M a b c k v a b c k = v := by
  unfold m_set
  rw [if_pos ⟨rfl, rfl, rfl, rfl⟩]
theorem m_set_n {M : m_Mem} {a b c k : Nat} {v : Int32} {a' b' c' k' : Nat} (h : ¬ (a' = a ∧ b' = b ∧ c' = c ∧ k' = k)) : m_set M a b c k v a' b' c' k' = M a' b' c' k' := by
  unfold m_set
  rw [if_neg h]
theorem m_nok10 : m_nok 1 0 = true := by decide
theorem m_nok11 : m_nok 1 1 = true := by decide
theorem m_nb0 : m_nb 0 = 0 := by decide
theorem m_nb1 : m_nb 1 = 1 := by decide
theorem m_set_at (M : m_Mem) (a b c k : Nat) (v : Int32) (a' b' c' k' : Nat) : m_set M a b c k v a' b' c' k' = if a' = a ∧ b' = b ∧ c' = c ∧ k' = k then v else M a' b' c' k' := rfl
theorem s_dCopy (j d j2 : Nat) (hj : j < 9) (hd : d < 8) (hj2 : j2 < 9) (M : m_Mem) (hne : j ≠ j2) : m_cl 43 [.ref (m_lc 12 j d), .ref (m_lc 12 j2 d)] M = some (.inl none, m_cp M 12 j d j2 d 8) := by
  have h := m_d12 hj hd
  have h2 := m_d12 hj2 hd
  have e : ∀ (M' : m_Mem) (k k' : Nat) (v : Int32), m_set M' 12 j d k v 12 j2 d k' = M' 12 j2 d k' := fun _ _ _ _ => m_set_n (fun q => hne q.2.1.symm)
  rw [e3_copyFrom_en]
  simp only [e3_copyFrom_0, e3_copyFrom_1, e3_copyFrom_2, e3_copyFrom_5, e3_copyFrom_8, e3_copyFrom_9, e3_copyFrom_10, e3_copyFrom_13, e3_copyFrom_16, e3_copyFrom_17, e3_copyFrom_18, e3_copyFrom_21, e3_copyFrom_24, e3_copyFrom_25, e3_copyFrom_26, e3_copyFrom_29, e3_copyFrom_32, e3_copyFrom_33, e3_copyFrom_34, e3_copyFrom_37, e3_copyFrom_40, e3_copyFrom_41, e3_copyFrom_42, e3_copyFrom_45, e3_copyFrom_48, e3_copyFrom_49, e3_copyFrom_50, e3_copyFrom_53, e3_copyFrom_56, e3_copyFrom_57, e3_copyFrom_58, e3_copyFrom_61, e3_copyFrom_64, h, h2, e]
  rfl
theorem s_cCopy (j d j2 : Nat) (hj : j < 9) (hd : d < 10) (hj2 : j2 < 9) (M : m_Mem) (hne : j ≠ j2) (hb : m_nok 1 (M 13 j2 d 3) = true) : m_cl 30 [.ref (m_lc 13 j d), .ref (m_lc 13 j2 d)] M = some (.inl none, m_cp M 13 j d j2 d 6) := by
  have h := m_d13 hj hd
  have h2 := m_d13 hj2 hd
  have e : ∀ (M' : m_Mem) (k k' : Nat) (v : Int32), m_set M' 13 j d k v 13 j2 d k' = M' 13 j2 d k' := fun _ _ _ _ => m_set_n (fun q => hne q.2.1.symm)
  rw [e1_copyFrom_en]
  have hb2 : m_nb (M 13 j2 d 3) = M 13 j2 d 3 := (eq_of_beq hb).symm
  simp only [e1_copyFrom_0, e1_copyFrom_1, e1_copyFrom_2, e1_copyFrom_5, e1_copyFrom_8, e1_copyFrom_9, e1_copyFrom_10, e1_copyFrom_13, e1_copyFrom_16, e1_copyFrom_17, e1_copyFrom_18, e1_copyFrom_21, e1_copyFrom_24, e1_copyFrom_25, e1_copyFrom_26, e1_copyFrom_29, e1_copyFrom_32, e1_copyFrom_33, e1_copyFrom_34, e1_copyFrom_37, e1_copyFrom_40, e1_copyFrom_41, e1_copyFrom_42, e1_copyFrom_45, e1_copyFrom_48, h, h2, e, hb, hb2]
  rfl
theorem s_gCopy (j d j2 d2 : Nat) (hj : j < 9) (hd : d < 13) (hj2 : j2 < 9) (hd2 : d2 < 13) (M : m_Mem) (hne : ¬ (j2 = j ∧ d2 = d)) : m_cl 49 [.ref (m_lc 14 j d), .ref (m_lc 14 j2 d2)] M = some (.inl none, m_cp M 14 j d j2 d2 3) := by
  have h := m_d14 hj hd
  have h2 := m_d14 hj2 hd2
  have e : ∀ (M' : m_Mem) (k k' : Nat) (v : Int32), m_set M' 14 j d k v 14 j2 d2 k' = M' 14 j2 d2 k' := fun _ _ _ _ => m_set_n (fun q => hne ⟨q.2.1, q.2.2.1⟩)
  rw [e4_copyFrom_en]
  simp only [e4_copyFrom_0, e4_copyFrom_1, e4_copyFrom_2, e4_copyFrom_5, e4_copyFrom_8, e4_copyFrom_9, e4_copyFrom_10, e4_copyFrom_13, e4_copyFrom_16, e4_copyFrom_17, e4_copyFrom_18, e4_copyFrom_21, e4_copyFrom_24, h, h2, e]
  rfl
theorem s_recv (j d : Nat) (hj : j < 9) (hd : d < 8) (pay : Int32) (M : m_Mem) : m_cl 44 [.ref (m_lc 12 j d), .int pay] M =
    (let t := if pay / 2 < M 12 j d 1 then pay / 2 else M 12 j d 1
    some (.inl none, m_set (m_set (m_set M 12 j d 1 (M 12 j d 1 - t)) 12 j d 0 (M 12 j d 0 + (pay - t))) 12 j d 5 (M 12 j d 5 + pay))) := by
  have h := m_d12 hj hd
  have e : ∀ (M' : m_Mem) (k k' : Nat) (v : Int32), k' ≠ k → m_set M' 12 j d k v 12 j d k' = M' 12 j d k' := fun _ _ _ _ h => m_set_n (fun q => h q.2.2.2)
  have e1 : ∀ (M' : m_Mem) (v : Int32), m_set M' 12 j d 1 v 12 j d 0 = M' 12 j d 0 := fun _ _ => e _ _ _ _ (by decide)
  have e2 : ∀ (M' : m_Mem) (v : Int32), m_set M' 12 j d 1 v 12 j d 5 = M' 12 j d 5 := fun _ _ => e _ _ _ _ (by decide)
  have e3 : ∀ (M' : m_Mem) (v : Int32), m_set M' 12 j d 0 v 12 j d 5 = M' 12 j d 5 := fun _ _ => e _ _ _ _ (by decide)
  rw [e3_receive_en]
  by_cases hb : pay / 2 < M 12 j d 1
  · have hb2 : ¬ M 12 j d 1 ≤ pay / 2 := Int32.not_le.mpr hb
    simp only [e3_receive_0, e3_receive_1, e3_receive_2, e3_receive_3, e3_receive_4, e3_receive_5, e3_receive_6, e3_receive_9, e3_receive_12, e3_receive_13, e3_receive_16, e3_receive_17, e3_receive_20, e3_receive_21, e3_receive_22, e3_receive_23, e3_receive_26, e3_receive_27, e3_receive_28, e3_receive_31, e3_receive_32, e3_receive_33, e3_receive_36, e3_receive_37, e3_receive_38, e3_receive_39, e3_receive_40, e3_receive_43, e3_receive_44, e3_receive_45, e3_receive_48, e3_receive_49, e3_receive_50, e3_receive_53, h, m_kill, hb, hb2, e1, e2, e3, if_true, if_false, (by decide : ¬ (2 : Int32) = 0), not_false_eq_true]
  · have hb2 : M 12 j d 1 ≤ pay / 2 := Int32.not_lt.mp hb
    simp only [e3_receive_0, e3_receive_1, e3_receive_2, e3_receive_3, e3_receive_4, e3_receive_5, e3_receive_6, e3_receive_9, e3_receive_12, e3_receive_13, e3_receive_16, e3_receive_17, e3_receive_20, e3_receive_21, e3_receive_22, e3_receive_23, e3_receive_26, e3_receive_27, e3_receive_28, e3_receive_31, e3_receive_32, e3_receive_33, e3_receive_36, e3_receive_37, e3_receive_38, e3_receive_39, e3_receive_40, e3_receive_43, e3_receive_44, e3_receive_45, e3_receive_48, e3_receive_49, e3_receive_50, e3_receive_53, h, m_kill, hb, hb2, e1, e2, e3, if_true, if_false, (by decide : ¬ (2 : Int32) = 0), not_false_eq_true]
def f_da (M : m_Mem) (j d : Nat) (c : Int32) : Int32 := if M 12 j d 0 < c then M 12 j d 1 + (c - M 12 j d 0) else M 12 j d 1
theorem s_debtA (j d : Nat) (hj : j < 9) (hd : d < 8) (c : Int32) (M : m_Mem) : m_cl 45 [.ref (m_lc 12 j d), .int c] M = some (.inl (some (.int (f_da M j d c))), M) := by
  have h := m_d12 hj hd
  unfold f_da
  rw [e3_debtAfter_en]
  by_cases hb : M 12 j d 0 < c
  · have hb2 : ¬ c ≤ M 12 j d 0 := Int32.not_le.mpr hb
    simp only [e3_debtAfter_0, e3_debtAfter_1, e3_debtAfter_2, e3_debtAfter_5, e3_debtAfter_8, e3_debtAfter_9, e3_debtAfter_12, e3_debtAfter_13, e3_debtAfter_14, e3_debtAfter_17, e3_debtAfter_18, e3_debtAfter_19, e3_debtAfter_22, e3_debtAfter_23, e3_debtAfter_26, h, hb, hb2, if_true, if_false]
  · have hb2 : c ≤ M 12 j d 0 := Int32.not_lt.mp hb
    simp only [e3_debtAfter_0, e3_debtAfter_1, e3_debtAfter_2, e3_debtAfter_5, e3_debtAfter_8, e3_debtAfter_9, e3_debtAfter_12, e3_debtAfter_13, e3_debtAfter_14, e3_debtAfter_17, e3_debtAfter_18, e3_debtAfter_19, e3_debtAfter_22, e3_debtAfter_23, e3_debtAfter_26, h, hb, hb2, if_true, if_false]
theorem s_spend (j d : Nat) (hj : j < 9) (hd : d < 8) (c : Int32) (M : m_Mem) : m_cl 46 [.ref (m_lc 12 j d), .int c] M =
    some (.inl none, m_set (m_set (m_set M 12 j d 1 (f_da M j d c)) 12 j d 0 (if M 12 j d 0 < c then 0 else M 12 j d 0 - c)) 12 j d 7 (M 12 j d 7 + c)) := by
  have h := m_d12 hj hd
  have e : ∀ (M' : m_Mem) (k k' : Nat) (v : Int32), k' ≠ k → m_set M' 12 j d k v 12 j d k' = M' 12 j d k' := fun _ _ _ _ h => m_set_n (fun q => h q.2.2.2)
  have e1 : ∀ (M' : m_Mem) (v : Int32), m_set M' 12 j d 1 v 12 j d 0 = M' 12 j d 0 := fun _ _ => e _ _ _ _ (by decide)
  have e2 : ∀ (M' : m_Mem) (v : Int32), m_set M' 12 j d 1 v 12 j d 7 = M' 12 j d 7 := fun _ _ => e _ _ _ _ (by decide)
  have e3 : ∀ (M' : m_Mem) (v : Int32), m_set M' 12 j d 0 v 12 j d 7 = M' 12 j d 7 := fun _ _ => e _ _ _ _ (by decide)
  rw [e3_spend_en]
  by_cases hb : M 12 j d 0 < c
  · have hb2 : ¬ c ≤ M 12 j d 0 := Int32.not_le.mpr hb
    simp only [e3_spend_0, e3_spend_1, e3_spend_2, e3_spend_3, e3_spend_6, e3_spend_9, e3_spend_10, e3_spend_11, e3_spend_12, e3_spend_15, e3_spend_18, e3_spend_19, e3_spend_22, e3_spend_23, e3_spend_26, e3_spend_27, e3_spend_28, e3_spend_31, e3_spend_32, e3_spend_33, e3_spend_36, e3_spend_37, e3_spend_38, e3_spend_41, h, s_debtA j d hj hd, m_cE_i, m_cE_v, m_cE_ite, m_kill, hb, hb2, e1, e2, e3, if_true, if_false]
  · have hb2 : c ≤ M 12 j d 0 := Int32.not_lt.mp hb
    simp only [e3_spend_0, e3_spend_1, e3_spend_2, e3_spend_3, e3_spend_6, e3_spend_9, e3_spend_10, e3_spend_11, e3_spend_12, e3_spend_15, e3_spend_18, e3_spend_19, e3_spend_22, e3_spend_23, e3_spend_26, e3_spend_27, e3_spend_28, e3_spend_31, e3_spend_32, e3_spend_33, e3_spend_36, e3_spend_37, e3_spend_38, e3_spend_41, h, s_debtA j d hj hd, m_cE_i, m_cE_v, m_cE_ite, m_kill, hb, hb2, e1, e2, e3, if_true, if_false]
theorem s_dProp (j d : Nat) (hj : j < 9) (hd : d < 8) (k : Nat) (hk : k < 8) (M : m_Mem) : m_cl 47 [.ref (m_lc 12 j d), .int (nI k)] M = some (.inl (some (.int (M 12 j d k))), M) := by
  have h := m_d12 hj hd
  rw [e3_property_en]
  have hk : k = 0 ∨ k = 1 ∨ k = 2 ∨ k = 3 ∨ k = 4 ∨ k = 5 ∨ k = 6 ∨ k = 7 := by omega
  rcases hk with rfl | rfl | rfl | rfl | rfl | rfl | rfl | rfl
  all_goals simp (config := { decide := true }) only [e3_property_0, e3_property_1, e3_property_44, e3_property_45, e3_property_48, e3_property_49, e3_property_50, e3_property_53, e3_property_54, e3_property_55, e3_property_58, e3_property_59, e3_property_60, e3_property_63, e3_property_64, e3_property_65, e3_property_68, e3_property_69, e3_property_70, e3_property_73, e3_property_74, e3_property_75, e3_property_78, e3_property_79, e3_property_80, e3_property_83, h, if_true, if_false]
theorem s_give (j c : Nat) (hj : j < 9) (hc : c < 10) (t : Int32) (M : m_Mem) : m_cl 31 [.ref (m_lc 13 j c), .int t] M = some (.inl none, m_set (m_set (m_set M 13 j c 1 t) 13 j c 2 0) 13 j c 3 0) := by
  have h := m_d13 hj hc
  rw [e1_giveTo_en]
  simp only [e1_giveTo_0, e1_giveTo_1, e1_giveTo_2, e1_giveTo_5, e1_giveTo_6, e1_giveTo_7, e1_giveTo_10, e1_giveTo_11, e1_giveTo_12, e1_giveTo_15, h, m_nok10]
theorem s_cEnd (j c : Nat) (hj : j < 9) (hc : c < 10) (M : m_Mem) (hB : m_nb (M 13 j c 3) = M 13 j c 3) : m_cl 32 [.ref (m_lc 13 j c)] M = some (.inl none, m_set (m_set M 13 j c 2 (if M 13 j c 3 = 0 then M 13 j c 2 + 1 else 0)) 13 j c 3 0) := by
  have h := m_d13 hj hc
  rw [e1_endDay_en]
  by_cases hb : M 13 j c 3 = 0
  · simp only [e1_endDay_0, e1_endDay_1, e1_endDay_2, e1_endDay_5, e1_endDay_8, e1_endDay_9, e1_endDay_12, e1_endDay_13, e1_endDay_16, e1_endDay_17, e1_endDay_18, e1_endDay_21, e1_endDay_22, e1_endDay_23, e1_endDay_26, h, hB, hb, m_nok10, m_nb0, if_true, if_false]
  · simp only [e1_endDay_0, e1_endDay_1, e1_endDay_2, e1_endDay_5, e1_endDay_8, e1_endDay_9, e1_endDay_12, e1_endDay_13, e1_endDay_16, e1_endDay_17, e1_endDay_18, e1_endDay_21, e1_endDay_22, e1_endDay_23, e1_endDay_26, h, hB, hb, m_nok10, m_nb0, if_true, if_false]
def f_cp (k : Nat) : Nat := match k with
  | 3 => 4
  | 4 => 5
  | k => k
theorem s_cProp (j c : Nat) (hj : j < 9) (hc : c < 10) (k : Nat) (hk : k < 5) (M : m_Mem) : m_cl 33 [.ref (m_lc 13 j c), .int (nI k)] M = some (.inl (some (.int (M 13 j c (f_cp k)))), M) := by
  have h := m_d13 hj hc
  rw [e1_property_en]
  have hk : k = 0 ∨ k = 1 ∨ k = 2 ∨ k = 3 ∨ k = 4 := by omega
  rcases hk with rfl | rfl | rfl | rfl | rfl
  all_goals simp (config := { decide := true }) only [e1_property_0, e1_property_1, e1_property_32, e1_property_33, e1_property_36, e1_property_37, e1_property_38, e1_property_41, e1_property_42, e1_property_43, e1_property_46, e1_property_47, e1_property_48, e1_property_51, e1_property_52, e1_property_53, e1_property_56, h, if_true, if_false, f_cp]
theorem s_gAdd (j b : Nat) (hj : j < 9) (hb : b < 13) (x y z : Int32) (M : m_Mem) : m_cl 50 [.ref (m_lc 14 j b), .int x, .int y, .int z] M = some (.inl none, m_set (m_set (m_set M 14 j b 0 (M 14 j b 0 + x)) 14 j b 1 (M 14 j b 1 + y)) 14 j b 2 (M 14 j b 2 + z)) := by
  have h := m_d14 hj hb
  have e : ∀ (M' : m_Mem) (k k' : Nat) (v : Int32), k' ≠ k → m_set M' 14 j b k v 14 j b k' = M' 14 j b k' := fun _ _ _ _ h => m_set_n (fun q => h q.2.2.2)
  have e1 : ∀ (M' : m_Mem) (v : Int32), m_set M' 14 j b 0 v 14 j b 1 = M' 14 j b 1 := fun _ _ => e _ _ _ _ (by decide)
  have e2 : ∀ (M' : m_Mem) (v : Int32), m_set M' 14 j b 0 v 14 j b 2 = M' 14 j b 2 := fun _ _ => e _ _ _ _ (by decide)
  have e3 : ∀ (M' : m_Mem) (v : Int32), m_set M' 14 j b 1 v 14 j b 2 = M' 14 j b 2 := fun _ _ => e _ _ _ _ (by decide)
  rw [e4_add_en]
  simp only [e4_add_0, e4_add_1, e4_add_2, e4_add_5, e4_add_6, e4_add_7, e4_add_10, e4_add_11, e4_add_12, e4_add_15, e4_add_16, e4_add_17, e4_add_20, e4_add_21, e4_add_22, e4_add_25, e4_add_26, e4_add_27, e4_add_30, h, e1, e2, e3]
theorem s_gEmpty (j b : Nat) (hj : j < 9) (hb : b < 13) (M : m_Mem) : m_cl 51 [.ref (m_lc 14 j b)] M = some (.inl none, m_set (m_set (m_set M 14 j b 0 0) 14 j b 1 0) 14 j b 2 0) := by
  have h := m_d14 hj hb
  rw [e4_empty_en]
  simp only [e4_empty_0, e4_empty_1, e4_empty_2, e4_empty_5, e4_empty_6, e4_empty_7, e4_empty_10, e4_empty_11, e4_empty_12, e4_empty_15, h]
theorem s_gFin (j b : Nat) (hj : j < 9) (hb : b < 13) (M : m_Mem) : m_cl 52 [.ref (m_lc 14 j b)] M = some (.inl (some (.int (if 0 < M 14 j b 0 then 1000 * M 14 j b 1 / M 14 j b 0 else 0))), M) := by
  have h := m_d14 hj hb
  rw [e4_fineness_en]
  by_cases hw : 0 < M 14 j b 0
  · have hw2 : ¬ M 14 j b 0 ≤ 0 := Int32.not_le.mpr hw
    have hw3 : ¬ M 14 j b 0 = 0 := fun q => by rw [q] at hw; exact absurd hw (by decide)
    simp only [e4_fineness_0, e4_fineness_1, e4_fineness_4, e4_fineness_7, e4_fineness_10, e4_fineness_11, e4_fineness_14, e4_fineness_15, e4_fineness_16, e4_fineness_19, e4_fineness_20, e4_fineness_23, e4_fineness_24, h, hw, hw2, hw3, if_true, if_false, not_false_eq_true]
  · have hw2 : M 14 j b 0 ≤ 0 := Int32.not_lt.mp hw
    simp only [e4_fineness_0, e4_fineness_1, e4_fineness_4, e4_fineness_7, e4_fineness_10, e4_fineness_11, e4_fineness_14, e4_fineness_15, e4_fineness_16, e4_fineness_19, e4_fineness_20, e4_fineness_23, e4_fineness_24, h, hw, hw2, if_true, if_false]
