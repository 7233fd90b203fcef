/-! CAMP: what its methods do, in equations. j: the camp's number. -/
def f_told (M : m_Mem) (j : Nat) (g : Int32) : Int32 := g * (1000 + M 7 j 0 8) / 1000
def f_worth (M : m_Mem) (j : Nat) (f : Int32) : Int32 := f * M 11 j 0 1 / 10
def f_price (M : m_Mem) (j : Nat) (g f : Int32) : Int32 := f_worth M j (f_told M j g * f / 1000)
def f_priceN (M : m_Mem) (j : Nat) (g : Int32) : Int32 := f_price M j g (M 11 j 0 0)
def f_fee (M : m_Mem) (j : Nat) (g : Int32) : Int32 := M 11 j 0 2 * f_priceN M j g / 100
def f_pay (M : m_Mem) (j : Nat) (g : Int32) : Int32 := f_priceN M j g - f_fee M j g
theorem s_told (j : Nat) (hj : j < 9) (g : Int32) (M : m_Mem) : m_cl 8 [.ref (m_lc 7 j 0), .int g] M = some (.inl (some (.int (f_told M j g))), M) := by
  have h7 := m_d7 hj
  rw [e0_toldWeight_en]
  simp only [e0_toldWeight_0, e0_toldWeight_1, e0_toldWeight_4, e0_toldWeight_5, e0_toldWeight_8, e0_toldWeight_9, e0_toldWeight_10, e0_toldWeight_13, e0_toldWeight_14, h7, (by decide : ¬ (1000 : Int32) = 0), not_false_eq_true]
  rfl
theorem s_worth (j : Nat) (hj : j < 9) (f : Int32) (M : m_Mem) : m_cl 9 [.ref (m_lc 7 j 0), .int f] M = some (.inl (some (.int (f_worth M j f))), M) := by
  have h7 := m_d7 hj
  have h11 := m_d11 hj
  rw [e0_worthOf_en]
  simp only [e0_worthOf_0, e0_worthOf_1, e0_worthOf_2, e0_worthOf_5, e0_worthOf_6, e0_worthOf_7, e0_worthOf_8, e0_worthOf_10, e0_worthOf_11, h7, h11, (by decide : ¬ (10 : Int32) = 0), not_false_eq_true]
  rfl
theorem s_priceFor (j : Nat) (hj : j < 9) (g f : Int32) (M : m_Mem) : m_cl 10 [.ref (m_lc 7 j 0), .int g, .int f] M = some (.inl (some (.int (f_price M j g f))), M) := by
  have h7 := m_d7 hj
  rw [e0_priceFor_en]
  simp only [e0_priceFor_0, e0_priceFor_1, e0_priceFor_2, e0_priceFor_3, e0_priceFor_6, e0_priceFor_7, e0_priceFor_8, e0_priceFor_11, e0_priceFor_12, e0_priceFor_15, h7, s_told j hj, s_worth j hj, m_cE_i, m_cE_v, m_cE_ite, m_kill, (by decide : ¬ (1000 : Int32) = 0), not_false_eq_true]
  rfl
theorem s_priceNow (j : Nat) (hj : j < 9) (g : Int32) (M : m_Mem) : m_cl 11 [.ref (m_lc 7 j 0), .int g] M = some (.inl (some (.int (f_priceN M j g))), M) := by
  have h7 := m_d7 hj
  have h11 := m_d11 hj
  rw [e0_priceNow_en]
  simp only [e0_priceNow_0, e0_priceNow_1, e0_priceNow_2, e0_priceNow_3, e0_priceNow_6, e0_priceNow_7, e0_priceNow_8, e0_priceNow_11, h7, h11, s_priceFor j hj, m_cE_i, m_cE_v, m_cE_ite, m_kill]
  rfl
theorem s_feeFor (j : Nat) (hj : j < 9) (g : Int32) (M : m_Mem) : m_cl 12 [.ref (m_lc 7 j 0), .int g] M = some (.inl (some (.int (f_fee M j g))), M) := by
  have h7 := m_d7 hj
  have h11 := m_d11 hj
  rw [e0_feeFor_en]
  simp only [e0_feeFor_0, e0_feeFor_1, e0_feeFor_4, e0_feeFor_5, e0_feeFor_6, e0_feeFor_7, e0_feeFor_8, e0_feeFor_11, e0_feeFor_12, e0_feeFor_14, e0_feeFor_15, h7, h11, s_priceNow j hj, m_cE_i, m_cE_v, m_cE_ite, m_kill, (by decide : ¬ (100 : Int32) = 0), not_false_eq_true]
  rfl
theorem s_payFor (j : Nat) (hj : j < 9) (g : Int32) (M : m_Mem) : m_cl 13 [.ref (m_lc 7 j 0), .int g] M = some (.inl (some (.int (f_pay M j g))), M) := by
  have h7 := m_d7 hj
  rw [e0_payFor_en]
  simp only [e0_payFor_0, e0_payFor_1, e0_payFor_2, e0_payFor_5, e0_payFor_6, e0_payFor_7, e0_payFor_10, e0_payFor_11, h7, s_priceNow j hj, s_feeFor j hj, m_cE_i, m_cE_v, m_cE_ite, m_kill]
  rfl
/-- claims with diggers among the first n -/
def f_tk (M : m_Mem) (j : Nat) : Nat → Int32
  | 0 => 0
  | n + 1 => if M 13 j n 1 = -1 then f_tk M j n else f_tk M j n + 1
theorem s_taken_l (j : Nat) (hj : j < 9) (M : m_Mem) : ∀ (k n : Nat), n + k = 10 → m_E 7 4 [some (.ref (m_lc 7 j 0)), some (.int (f_tk M j n)), some (.int (nI n))] [] M = some (.inl (some (.int (f_tk M j 10))), M) := by
  have h7 := m_d7 hj
  have h9 := m_d9 hj
  intro k
  induction k with
  | zero =>
    intro n hn
    have e : n = 10 := by omega
    subst e
    simp only [e0_takenClaims_0, e0_takenClaims_1, e0_takenClaims_2, e0_takenClaims_3, e0_takenClaims_4, e0_takenClaims_5, e0_takenClaims_7, e0_takenClaims_10, e0_takenClaims_11, e0_takenClaims_14, e0_takenClaims_15, e0_takenClaims_16, e0_takenClaims_19, e0_takenClaims_20, e0_takenClaims_23, e0_takenClaims_26, e0_takenClaims_29, e0_takenClaims_32, e0_takenClaims_33, (by decide : (10 : Int32) ≤ nI 10), if_true]
  | succ k ih =>
    intro n hn
    have hlt : n < 10 := by omega
    have h13 := m_d13 hj hlt
    have hc : ¬ (10 : Int32) ≤ nI n := nI_ge hlt (by decide)
    have ih2 := ih (n + 1) (by omega)
    rw [e0_takenClaims_4]
    simp only [e0_takenClaims_5, e0_takenClaims_7, e0_takenClaims_10, e0_takenClaims_11, e0_takenClaims_14, e0_takenClaims_15, e0_takenClaims_16, e0_takenClaims_19, e0_takenClaims_20, e0_takenClaims_23, e0_takenClaims_26, e0_takenClaims_29, e0_takenClaims_32, e0_takenClaims_33, h7, h9, h13, hlt, hc, if_false, nI_1, m_kill]
    by_cases h : M 13 j n 1 = -1
    · simp only [f_tk, h, if_true] at ih2 ⊢
      exact ih2
    · simp only [f_tk, h, if_false] at ih2 ⊢
      exact ih2
theorem s_taken (j : Nat) (hj : j < 9) (M : m_Mem) : m_cl 7 [.ref (m_lc 7 j 0)] M = some (.inl (some (.int (f_tk M j 10))), M) := by
  rw [e0_takenClaims_en]
  simp only [e0_takenClaims_0, e0_takenClaims_1, e0_takenClaims_2, e0_takenClaims_3, m_kill]
  exact s_taken_l j hj M 10 0 rfl
/-- is v between lo and hi -/
def f_bw (v lo hi : Int32) : Int32 := if lo ≤ v ∧ v ≤ hi then 1 else 0
theorem s_betw (v lo hi : Int32) (M : m_Mem) : m_cl 72 [.int v, .int lo, .int hi] M = some (.inl (some (.int (f_bw v lo hi))), M) := by
  rw [e5_isBetween_en]
  unfold f_bw
  by_cases h1 : lo ≤ v
  · have h2 : ¬ v < lo := Int32.not_lt.mpr h1
    by_cases h3 : v ≤ hi
    · have h4 : ¬ hi < v := Int32.not_lt.mpr h3
      simp only [e5_isBetween_0, e5_isBetween_1, e5_isBetween_2, e5_isBetween_5, e5_isBetween_6, e5_isBetween_7, e5_isBetween_10, e5_isBetween_11, e5_isBetween_14, e5_isBetween_15, h1, h2, h3, h4, if_true, if_false, not_false_eq_true, m_nok11, and_self]
    · have h4 : hi < v := Int32.not_le.mp h3
      simp only [e5_isBetween_0, e5_isBetween_1, e5_isBetween_2, e5_isBetween_5, e5_isBetween_6, e5_isBetween_7, e5_isBetween_10, e5_isBetween_11, e5_isBetween_14, e5_isBetween_15, h1, h2, h3, h4, if_true, if_false, not_false_eq_true, m_nok10, and_false]
  · have h2 : v < lo := Int32.not_le.mp h1
    simp only [e5_isBetween_0, e5_isBetween_1, e5_isBetween_2, e5_isBetween_5, e5_isBetween_6, e5_isBetween_7, e5_isBetween_10, e5_isBetween_11, e5_isBetween_14, e5_isBetween_15, h1, h2, if_true, if_false, not_false_eq_true, m_nok10, false_and]
theorem f_bw_nok (v lo hi : Int32) : m_nok 1 (f_bw v lo hi) = true := by
  unfold f_bw
  split <;> decide
theorem s_isClaim (v : Int32) (M : m_Mem) : m_cl 73 [.int v] M = some (.inl (some (.int (f_bw v 0 9))), M) := by
  rw [e5_isClaim_en]
  simp only [e5_isClaim_0, e5_isClaim_1, e5_isClaim_2, e5_isClaim_4, e5_isClaim_7, s_betw, m_cE_i, m_cE_v, m_cE_ite, m_kill, f_bw_nok]
theorem s_isAmount (v : Int32) (M : m_Mem) : m_cl 74 [.int v] M = some (.inl (some (.int (f_bw v 1 9999))), M) := by
  rw [e5_isAmount_en]
  simp only [e5_isAmount_0, e5_isAmount_1, e5_isAmount_2, e5_isAmount_5, e5_isAmount_8, s_betw, m_cE_i, m_cE_v, m_cE_ite, m_kill, f_bw_nok]
theorem s_isSetting (v : Int32) (M : m_Mem) : m_cl 75 [.int v] M = some (.inl (some (.int (f_bw v 0 4))), M) := by
  rw [e5_isSetting_en]
  simp only [e5_isSetting_0, e5_isSetting_1, e5_isSetting_2, e5_isSetting_3, e5_isSetting_6, s_betw, m_cE_i, m_cE_v, m_cE_ite, m_kill, f_bw_nok]
/-- 1 if v is one of the first n, and below lim -/
def f_has (v n lim : Int32) : Int32 := if 0 ≤ v ∧ v < n ∧ v < lim then 1 else 0
theorem f_has_nok (v n lim : Int32) : m_nok 1 (f_has v n lim) = true := by
  unfold f_has
  split <;> decide
theorem s_hasD (j : Nat) (hj : j < 9) (v : Int32) (M : m_Mem) : m_cl 2 [.ref (m_lc 7 j 0), .int v] M = some (.inl (some (.int (f_has v (M 7 j 0 5) 8))), M) := by
  have h7 := m_d7 hj
  rw [e0_hasDigger_en]
  unfold f_has
  by_cases h1 : 0 ≤ v
  · have h2 : ¬ v < 0 := Int32.not_lt.mpr h1
    by_cases h3 : v < M 7 j 0 5
    · have h4 : ¬ M 7 j 0 5 ≤ v := Int32.not_le.mpr h3
      by_cases h5 : v < 8
      · have h6 : ¬ 8 ≤ v := Int32.not_le.mpr h5
        simp only [e0_hasDigger_0, e0_hasDigger_1, e0_hasDigger_4, e0_hasDigger_5, e0_hasDigger_6, e0_hasDigger_9, e0_hasDigger_12, e0_hasDigger_13, e0_hasDigger_15, e0_hasDigger_18, e0_hasDigger_19, e0_hasDigger_22, e0_hasDigger_23, h7, h1, h2, h3, h4, h5, h6, if_true, if_false, not_false_eq_true, m_nok11, and_self]
      · have h6 : 8 ≤ v := Int32.not_lt.mp h5
        simp only [e0_hasDigger_0, e0_hasDigger_1, e0_hasDigger_4, e0_hasDigger_5, e0_hasDigger_6, e0_hasDigger_9, e0_hasDigger_12, e0_hasDigger_13, e0_hasDigger_15, e0_hasDigger_18, e0_hasDigger_19, e0_hasDigger_22, e0_hasDigger_23, h7, h1, h2, h3, h4, h5, h6, if_true, if_false, not_false_eq_true, m_nok10, and_false]
    · have h4 : M 7 j 0 5 ≤ v := Int32.not_lt.mp h3
      simp only [e0_hasDigger_0, e0_hasDigger_1, e0_hasDigger_4, e0_hasDigger_5, e0_hasDigger_6, e0_hasDigger_9, e0_hasDigger_12, e0_hasDigger_13, e0_hasDigger_15, e0_hasDigger_18, e0_hasDigger_19, e0_hasDigger_22, e0_hasDigger_23, h7, h1, h2, h3, h4, if_true, if_false, not_false_eq_true, m_nok10, and_false, false_and]
  · have h2 : v < 0 := Int32.not_le.mp h1
    simp only [e0_hasDigger_0, e0_hasDigger_1, e0_hasDigger_4, e0_hasDigger_5, e0_hasDigger_6, e0_hasDigger_9, e0_hasDigger_12, e0_hasDigger_13, e0_hasDigger_15, e0_hasDigger_18, e0_hasDigger_19, e0_hasDigger_22, e0_hasDigger_23, h7, h1, h2, if_true, if_false, not_false_eq_true, m_nok10, false_and]
theorem s_hasB (j : Nat) (hj : j < 9) (v : Int32) (M : m_Mem) : m_cl 3 [.ref (m_lc 7 j 0), .int v] M = some (.inl (some (.int (f_has v (M 7 j 0 6) 12))), M) := by
  have h7 := m_d7 hj
  rw [e0_hasBar_en]
  unfold f_has
  by_cases h1 : 0 ≤ v
  · have h2 : ¬ v < 0 := Int32.not_lt.mpr h1
    by_cases h3 : v < M 7 j 0 6
    · have h4 : ¬ M 7 j 0 6 ≤ v := Int32.not_le.mpr h3
      by_cases h5 : v < 12
      · have h6 : ¬ 12 ≤ v := Int32.not_le.mpr h5
        simp only [e0_hasBar_0, e0_hasBar_1, e0_hasBar_4, e0_hasBar_5, e0_hasBar_6, e0_hasBar_9, e0_hasBar_12, e0_hasBar_13, e0_hasBar_15, e0_hasBar_18, e0_hasBar_19, e0_hasBar_22, e0_hasBar_23, h7, h1, h2, h3, h4, h5, h6, if_true, if_false, not_false_eq_true, m_nok11, and_self]
      · have h6 : 12 ≤ v := Int32.not_lt.mp h5
        simp only [e0_hasBar_0, e0_hasBar_1, e0_hasBar_4, e0_hasBar_5, e0_hasBar_6, e0_hasBar_9, e0_hasBar_12, e0_hasBar_13, e0_hasBar_15, e0_hasBar_18, e0_hasBar_19, e0_hasBar_22, e0_hasBar_23, h7, h1, h2, h3, h4, h5, h6, if_true, if_false, not_false_eq_true, m_nok10, and_false]
    · have h4 : M 7 j 0 6 ≤ v := Int32.not_lt.mp h3
      simp only [e0_hasBar_0, e0_hasBar_1, e0_hasBar_4, e0_hasBar_5, e0_hasBar_6, e0_hasBar_9, e0_hasBar_12, e0_hasBar_13, e0_hasBar_15, e0_hasBar_18, e0_hasBar_19, e0_hasBar_22, e0_hasBar_23, h7, h1, h2, h3, h4, if_true, if_false, not_false_eq_true, m_nok10, and_false, false_and]
  · have h2 : v < 0 := Int32.not_le.mp h1
    simp only [e0_hasBar_0, e0_hasBar_1, e0_hasBar_4, e0_hasBar_5, e0_hasBar_6, e0_hasBar_9, e0_hasBar_12, e0_hasBar_13, e0_hasBar_15, e0_hasBar_18, e0_hasBar_19, e0_hasBar_22, e0_hasBar_23, h7, h1, h2, if_true, if_false, not_false_eq_true, m_nok10, false_and]
theorem s_canTake (j : Nat) (hj : j < 9) (d c : Nat) (hd : d < 8) (hc : c < 10) (M : m_Mem) : m_cl 4 [.ref (m_lc 7 j 0), .int (nI d), .int (nI c)] M = some (.inl (some (.int (if M 12 j d 2 = -1 ∧ M 13 j c 1 = -1 then 1 else 0))), M) := by
  have h7 := m_d7 hj
  have h8 := m_d8 hj
  have h9 := m_d9 hj
  have h12 := m_d12 hj hd
  have h13 := m_d13 hj hc
  rw [e0_canTake_en]
  by_cases h1 : M 12 j d 2 = -1
  · by_cases h2 : M 13 j c 1 = -1
    · simp only [e0_canTake_0, e0_canTake_1, e0_canTake_4, e0_canTake_5, e0_canTake_6, e0_canTake_9, e0_canTake_10, e0_canTake_13, e0_canTake_14, e0_canTake_17, e0_canTake_18, e0_canTake_19, e0_canTake_22, e0_canTake_23, e0_canTake_26, e0_canTake_27, e0_canTake_30, e0_canTake_31, h7, h8, h9, h12, h13, hd, hc, h1, h2, if_true, if_false, not_false_eq_true, m_nok11, and_self]
    · simp only [e0_canTake_0, e0_canTake_1, e0_canTake_4, e0_canTake_5, e0_canTake_6, e0_canTake_9, e0_canTake_10, e0_canTake_13, e0_canTake_14, e0_canTake_17, e0_canTake_18, e0_canTake_19, e0_canTake_22, e0_canTake_23, e0_canTake_26, e0_canTake_27, e0_canTake_30, e0_canTake_31, h7, h8, h9, h12, h13, hd, hc, h1, h2, if_true, if_false, not_false_eq_true, m_nok10, and_false]
  · simp only [e0_canTake_0, e0_canTake_1, e0_canTake_4, e0_canTake_5, e0_canTake_6, e0_canTake_9, e0_canTake_10, e0_canTake_13, e0_canTake_14, e0_canTake_17, e0_canTake_18, e0_canTake_19, e0_canTake_22, e0_canTake_23, e0_canTake_26, e0_canTake_27, e0_canTake_30, e0_canTake_31, h7, h8, h9, h12, h13, hd, hc, h1, if_true, if_false, not_false_eq_true, m_nok10, false_and]
def f_give (M : m_Mem) (j c : Nat) (t : Int32) : m_Mem := m_set (m_set (m_set M 13 j c 1 t) 13 j c 2 0) 13 j c 3 0
theorem s_take (j : Nat) (hj : j < 9) (d c : Nat) (hd : d < 8) (hc : c < 10) (M : m_Mem) : m_cl 5 [.ref (m_lc 7 j 0), .int (nI d), .int (nI c)] M = some (.inl none, f_give (m_set M 12 j d 2 (nI c)) j c (nI d)) := by
  have h7 := m_d7 hj
  have h8 := m_d8 hj
  have h9 := m_d9 hj
  have h12 := m_d12 hj hd
  have h13 := m_d13 hj hc
  rw [e0_take_en]
  simp only [e0_take_0, e0_take_1, e0_take_4, e0_take_5, e0_take_6, e0_take_7, e0_take_10, e0_take_11, e0_take_14, e0_take_15, e0_take_16, e0_take_17, e0_take_20, h7, h8, h9, h12, h13, hd, hc, s_give j c hj hc, m_cE_i, m_cE_v, m_cE_ite, m_kill]
  rfl
theorem s_release (j : Nat) (hj : j < 9) (d c : Nat) (hd : d < 8) (hc : c < 10) (M : m_Mem) (ho : M 13 j c 1 = nI d) (hl : nI d < M 7 j 0 5) : m_cl 6 [.ref (m_lc 7 j 0), .int (nI c)] M = some (.inl none, f_give (m_set M 12 j d 2 (-1)) j c (-1)) := by
  have h7 := m_d7 hj
  have h8 := m_d8 hj
  have h9 := m_d9 hj
  have h12 := m_d12 hj hd
  have h13 := m_d13 hj hc
  have hh : f_has (nI d) (M 7 j 0 5) 8 = 1 := by
    unfold f_has
    rw [if_pos ⟨nI_pos' (by omega), hl, (nI_lt hd (by decide) : nI d < nI 8)⟩]
  rw [e0_release_en]
  simp only [e0_release_0, e0_release_1, e0_release_4, e0_release_5, e0_release_6, e0_release_9, e0_release_10, e0_release_11, e0_release_12, e0_release_15, e0_release_18, e0_release_19, e0_release_22, e0_release_23, e0_release_24, e0_release_25, e0_release_28, e0_release_29, e0_release_32, e0_release_33, e0_release_34, e0_release_35, e0_release_38, h7, h8, h9, h12, h13, hd, hc, ho, s_hasD j hj, hh, s_give j c hj hc, m_cE_i, m_cE_v, m_cE_ite, m_kill, (by decide : ¬ (1 : Int32) = 0), if_true, if_false, not_false_eq_true]
  rfl
def f_rc (M : m_Mem) (j d : Nat) (pay : Int32) : m_Mem :=
  let t := if pay / 2 < M 12 j d 1 then pay / 2 else M 12 j d 1
  m_set (m_set (m_set M 12 j d 1 (M 12 j d 1 - t)) 12 j d 0 (M 12 j d 0 + (pay - t))) 12 j d 5 (M 12 j d 5 + pay)
def f_ga (M : m_Mem) (j b : Nat) (x y z : Int32) : m_Mem := m_set (m_set (m_set M 14 j b 0 (M 14 j b 0 + x)) 14 j b 1 (M 14 j b 1 + y)) 14 j b 2 (M 14 j b 2 + z)
def f_cw (M : m_Mem) (j : Nat) : m_Mem :=
  let w := M 7 j 0 9 + 1
  let M1 := m_set M 7 j 0 9 w
  if 0 < M 11 j 0 4 ∧ w - w / M 11 j 0 4 * M 11 j 0 4 = 0 ∧ M 7 j 0 8 < 50 then m_set M1 7 j 0 8 (M 7 j 0 8 + 1) else M1
def f_wi (M : m_Mem) (j d c : Nat) (g : Int32) : m_Mem :=
  let M1 := f_rc (m_set M 12 j d 6 (M 12 j d 6 + f_fee M j g)) j d (f_pay M j g)
  let M2 := m_set (m_set M1 12 j d 3 (M 12 j d 3 + g)) 12 j d 4 (M 12 j d 4 + g * M 13 j c 0 / 1000)
  let M3 := m_set (m_set M2 13 j c 4 (M 13 j c 4 + g)) 13 j c 3 1
  f_cw (f_ga M3 j 12 g (g * M 13 j c 0 / 1000) (f_priceN M j g)) j
theorem s_cw (j : Nat) (hj : j < 9) (M : m_Mem) : m_cl 16 [.ref (m_lc 7 j 0)] M = some (.inl none, f_cw M j) := by
  have h7 := m_d7 hj
  have h11 := m_d11 hj
  rw [e0_countWeighing_en]
  unfold f_cw
  by_cases h1 : 0 < M 11 j 0 4
  · have h2 : ¬ M 11 j 0 4 ≤ 0 := Int32.not_le.mpr h1
    have h3 : ¬ M 11 j 0 4 = 0 := fun q => by rw [q] at h1; exact absurd h1 (by decide)
    by_cases h4 : (M 7 j 0 9 + 1) - (M 7 j 0 9 + 1) / M 11 j 0 4 * M 11 j 0 4 = 0
    · by_cases h5 : M 7 j 0 8 < 50
      · have h6 : ¬ 50 ≤ M 7 j 0 8 := Int32.not_le.mpr h5
        simp only [e0_countWeighing_0, e0_countWeighing_1, e0_countWeighing_2, e0_countWeighing_5, e0_countWeighing_6, e0_countWeighing_7, e0_countWeighing_10, e0_countWeighing_11, e0_countWeighing_14, e0_countWeighing_15, e0_countWeighing_16, e0_countWeighing_17, e0_countWeighing_18, e0_countWeighing_21, e0_countWeighing_22, e0_countWeighing_25, e0_countWeighing_26, e0_countWeighing_27, e0_countWeighing_30, e0_countWeighing_31, e0_countWeighing_34, e0_countWeighing_36, e0_countWeighing_39, e0_countWeighing_40, e0_countWeighing_41, e0_countWeighing_44, e0_countWeighing_45, e0_countWeighing_46, e0_countWeighing_49, h7, h11, m_set_at, true_and, and_true, false_and, and_false, if_true, if_false, Nat.reduceEqDiff, eq_self, reduceCtorEq, m_kill, h1, h2, h3, h4, h5, h6, not_false_eq_true, and_self]
      · have h6 : 50 ≤ M 7 j 0 8 := Int32.not_lt.mp h5
        simp only [e0_countWeighing_0, e0_countWeighing_1, e0_countWeighing_2, e0_countWeighing_5, e0_countWeighing_6, e0_countWeighing_7, e0_countWeighing_10, e0_countWeighing_11, e0_countWeighing_14, e0_countWeighing_15, e0_countWeighing_16, e0_countWeighing_17, e0_countWeighing_18, e0_countWeighing_21, e0_countWeighing_22, e0_countWeighing_25, e0_countWeighing_26, e0_countWeighing_27, e0_countWeighing_30, e0_countWeighing_31, e0_countWeighing_34, e0_countWeighing_36, e0_countWeighing_39, e0_countWeighing_40, e0_countWeighing_41, e0_countWeighing_44, e0_countWeighing_45, e0_countWeighing_46, e0_countWeighing_49, h7, h11, m_set_at, true_and, and_true, false_and, and_false, if_true, if_false, Nat.reduceEqDiff, eq_self, reduceCtorEq, m_kill, h1, h2, h3, h4, h5, h6, not_false_eq_true, and_self]
    · simp only [e0_countWeighing_0, e0_countWeighing_1, e0_countWeighing_2, e0_countWeighing_5, e0_countWeighing_6, e0_countWeighing_7, e0_countWeighing_10, e0_countWeighing_11, e0_countWeighing_14, e0_countWeighing_15, e0_countWeighing_16, e0_countWeighing_17, e0_countWeighing_18, e0_countWeighing_21, e0_countWeighing_22, e0_countWeighing_25, e0_countWeighing_26, e0_countWeighing_27, e0_countWeighing_30, e0_countWeighing_31, e0_countWeighing_34, e0_countWeighing_36, e0_countWeighing_39, e0_countWeighing_40, e0_countWeighing_41, e0_countWeighing_44, e0_countWeighing_45, e0_countWeighing_46, e0_countWeighing_49, h7, h11, m_set_at, true_and, and_true, false_and, and_false, if_true, if_false, Nat.reduceEqDiff, eq_self, reduceCtorEq, m_kill, h1, h2, h3, h4, not_false_eq_true]
  · have h2 : M 11 j 0 4 ≤ 0 := Int32.not_lt.mp h1
    simp only [e0_countWeighing_0, e0_countWeighing_1, e0_countWeighing_2, e0_countWeighing_5, e0_countWeighing_6, e0_countWeighing_7, e0_countWeighing_10, e0_countWeighing_11, e0_countWeighing_14, e0_countWeighing_15, e0_countWeighing_16, e0_countWeighing_17, e0_countWeighing_18, e0_countWeighing_21, e0_countWeighing_22, e0_countWeighing_25, e0_countWeighing_26, e0_countWeighing_27, e0_countWeighing_30, e0_countWeighing_31, e0_countWeighing_34, e0_countWeighing_36, e0_countWeighing_39, e0_countWeighing_40, e0_countWeighing_41, e0_countWeighing_44, e0_countWeighing_45, e0_countWeighing_46, e0_countWeighing_49, h7, h11, m_set_at, true_and, and_true, false_and, and_false, if_true, if_false, Nat.reduceEqDiff, eq_self, reduceCtorEq, m_kill, h1, h2, not_false_eq_true]
theorem f_bw1 {v lo hi : Int32} (h : lo ≤ v ∧ v ≤ hi) : f_bw v lo hi = 1 := if_pos h
theorem f_bw0 {v lo hi : Int32} (h : ¬ (lo ≤ v ∧ v ≤ hi)) : f_bw v lo hi = 0 := if_neg h
theorem s_wi (j : Nat) (hj : j < 9) (d c : Nat) (hd : d < 8) (hc : c < 10) (g : Int32) (M : m_Mem) (ho : M 12 j d 2 = nI c) : m_cl 15 [.ref (m_lc 7 j 0), .int (nI d), .int g] M = some (.inl (some (.int (f_pay M j g))), f_wi M j d c g) := by
  have h7 := m_d7 hj
  have h8 := m_d8 hj
  have h9 := m_d9 hj
  have h12 := m_d12 hj hd
  have h13 := m_d13 hj hc
  have h14 := m_d14 hj (by decide : 12 < 13)
  have hb : f_bw (nI c) 0 9 = 1 := f_bw1 ⟨nI_pos' (by omega), (nI_le (by omega) (by decide) : nI c ≤ nI 9)⟩
  rw [e0_weighIn_en]
  simp only [e0_weighIn_0, e0_weighIn_1, e0_weighIn_4, e0_weighIn_5, e0_weighIn_6, e0_weighIn_7, e0_weighIn_8, e0_weighIn_11, e0_weighIn_14, e0_weighIn_17, e0_weighIn_18, e0_weighIn_19, e0_weighIn_20, e0_weighIn_23, e0_weighIn_24, e0_weighIn_27, e0_weighIn_28, e0_weighIn_30, e0_weighIn_31, e0_weighIn_32, e0_weighIn_35, e0_weighIn_37, e0_weighIn_38, e0_weighIn_40, e0_weighIn_43, e0_weighIn_44, e0_weighIn_47, e0_weighIn_48, e0_weighIn_50, e0_weighIn_51, e0_weighIn_52, e0_weighIn_55, e0_weighIn_56, e0_weighIn_57, e0_weighIn_60, e0_weighIn_61, e0_weighIn_64, e0_weighIn_65, e0_weighIn_67, e0_weighIn_70, e0_weighIn_71, e0_weighIn_72, e0_weighIn_75, e0_weighIn_76, e0_weighIn_77, e0_weighIn_80, e0_weighIn_81, e0_weighIn_82, e0_weighIn_85, e0_weighIn_87, e0_weighIn_88, e0_weighIn_91, e0_weighIn_93, e0_weighIn_94, e0_weighIn_97, e0_weighIn_98, e0_weighIn_99, e0_weighIn_102, e0_weighIn_104, e0_weighIn_105, e0_weighIn_108, e0_weighIn_109, e0_weighIn_112, e0_weighIn_113, e0_weighIn_115, e0_weighIn_116, e0_weighIn_117, e0_weighIn_120, e0_weighIn_123, e0_weighIn_124, e0_weighIn_127, e0_weighIn_129, h7, h8, h9, h12, h13, h14, hd, hc, ho, hb, s_isClaim, s_payFor j hj, s_feeFor j hj, s_priceNow j hj, s_recv j d hj hd, s_gAdd j 12 hj (by decide : 12 < 13), s_cw j hj, m_cE_i, m_cE_v, m_cE_ite, m_kill, m_nok11, (by decide : ¬ (1 : Int32) = 0), (by decide : ¬ (1000 : Int32) = 0), not_false_eq_true, if_true, if_false]
  simp only [f_wi, f_rc, f_ga, f_fee, f_priceN, f_price, f_worth, f_told, m_set_at, true_and, and_true, false_and, and_false, if_true, if_false, Nat.reduceEqDiff, eq_self, reduceCtorEq, (by decide : ¬ (12 : Nat) = 14)]
def f_sp (M : m_Mem) (j d : Nat) (c : Int32) : m_Mem := m_set (m_set (m_set M 12 j d 1 (f_da M j d c)) 12 j d 0 (if M 12 j d 0 < c then 0 else M 12 j d 0 - c)) 12 j d 7 (M 12 j d 7 + c)
theorem s_sell (j : Nat) (hj : j < 9) (d : Nat) (hd : d < 8) (c : Int32) (M : m_Mem) : m_cl 18 [.ref (m_lc 7 j 0), .int (nI d), .int c] M = some (.inl none, f_sp M j d c) := by
  have h7 := m_d7 hj
  have h8 := m_d8 hj
  have h12 := m_d12 hj hd
  rw [e0_sell_en]
  simp only [e0_sell_0, e0_sell_1, e0_sell_4, e0_sell_5, e0_sell_6, e0_sell_7, e0_sell_10, h7, h8, h12, hd, s_spend j d hj hd, m_cE_i, m_cE_v, m_cE_ite, m_kill]
  rfl
theorem s_canSell (j : Nat) (hj : j < 9) (d : Nat) (hd : d < 8) (c : Int32) (M : m_Mem) : m_cl 17 [.ref (m_lc 7 j 0), .int (nI d), .int c] M = some (.inl (some (.int (if f_da M j d c ≤ 5000 then 1 else 0))), M) := by
  have h7 := m_d7 hj
  have h8 := m_d8 hj
  have h12 := m_d12 hj hd
  rw [e0_canSell_en]
  by_cases h1 : f_da M j d c ≤ 5000
  · have h2 : ¬ 5000 < f_da M j d c := Int32.not_lt.mpr h1
    simp only [e0_canSell_0, e0_canSell_1, e0_canSell_4, e0_canSell_5, e0_canSell_6, e0_canSell_7, e0_canSell_10, e0_canSell_13, e0_canSell_16, e0_canSell_17, e0_canSell_20, e0_canSell_21, h7, h8, h12, hd, s_debtA j d hj hd, m_cE_i, m_cE_v, m_cE_ite, m_kill, h1, h2, if_true, if_false, not_false_eq_true, m_nok11]
  · have h2 : 5000 < f_da M j d c := Int32.not_le.mp h1
    simp only [e0_canSell_0, e0_canSell_1, e0_canSell_4, e0_canSell_5, e0_canSell_6, e0_canSell_7, e0_canSell_10, e0_canSell_13, e0_canSell_16, e0_canSell_17, e0_canSell_20, e0_canSell_21, h7, h8, h12, hd, s_debtA j d hj hd, m_cE_i, m_cE_v, m_cE_ite, m_kill, h1, h2, if_true, if_false, not_false_eq_true, m_nok10]
theorem s_canWeigh (j : Nat) (hj : j < 9) (d : Nat) (hd : d < 8) (g : Int32) (M : m_Mem) : m_cl 14 [.ref (m_lc 7 j 0), .int (nI d), .int g] M = some (.inl (some (.int (if f_bw (M 12 j d 2) 0 9 = 1 ∧ M 14 j 12 0 + g ≤ 99999 then 1 else 0))), M) := by
  have h7 := m_d7 hj
  have h8 := m_d8 hj
  have h12 := m_d12 hj hd
  have h14 := m_d14 hj (by decide : 12 < 13)
  rw [e0_canWeighIn_en]
  by_cases h1 : 0 ≤ M 12 j d 2 ∧ M 12 j d 2 ≤ 9
  · have hb := f_bw1 h1
    by_cases h3 : M 14 j 12 0 + g ≤ 99999
    · have h4 : ¬ 99999 < M 14 j 12 0 + g := Int32.not_lt.mpr h3
      simp only [e0_canWeighIn_0, e0_canWeighIn_1, e0_canWeighIn_4, e0_canWeighIn_5, e0_canWeighIn_6, e0_canWeighIn_9, e0_canWeighIn_12, e0_canWeighIn_15, e0_canWeighIn_16, e0_canWeighIn_19, e0_canWeighIn_22, e0_canWeighIn_23, e0_canWeighIn_24, e0_canWeighIn_26, e0_canWeighIn_29, e0_canWeighIn_30, e0_canWeighIn_33, e0_canWeighIn_34, h7, h8, h12, h14, hd, s_isClaim, m_cE_i, m_cE_v, m_cE_ite, m_kill, hb, h3, h4, if_true, if_false, not_false_eq_true, m_nok11, (by decide : ¬ (1 : Int32) = 0), and_self]
    · have h4 : 99999 < M 14 j 12 0 + g := Int32.not_le.mp h3
      simp only [e0_canWeighIn_0, e0_canWeighIn_1, e0_canWeighIn_4, e0_canWeighIn_5, e0_canWeighIn_6, e0_canWeighIn_9, e0_canWeighIn_12, e0_canWeighIn_15, e0_canWeighIn_16, e0_canWeighIn_19, e0_canWeighIn_22, e0_canWeighIn_23, e0_canWeighIn_24, e0_canWeighIn_26, e0_canWeighIn_29, e0_canWeighIn_30, e0_canWeighIn_33, e0_canWeighIn_34, h7, h8, h12, h14, hd, s_isClaim, m_cE_i, m_cE_v, m_cE_ite, m_kill, hb, h3, h4, if_true, if_false, not_false_eq_true, m_nok10, (by decide : ¬ (1 : Int32) = 0), and_false]
  · have hb := f_bw0 h1
    simp only [e0_canWeighIn_0, e0_canWeighIn_1, e0_canWeighIn_4, e0_canWeighIn_5, e0_canWeighIn_6, e0_canWeighIn_9, e0_canWeighIn_12, e0_canWeighIn_15, e0_canWeighIn_16, e0_canWeighIn_19, e0_canWeighIn_22, e0_canWeighIn_23, e0_canWeighIn_24, e0_canWeighIn_26, e0_canWeighIn_29, e0_canWeighIn_30, e0_canWeighIn_33, e0_canWeighIn_34, h7, h8, h12, h14, hd, s_isClaim, m_cE_i, m_cE_v, m_cE_ite, m_kill, hb, if_true, if_false, not_false_eq_true, m_nok10, (by decide : ¬ (0 : Int32) = 1), false_and]
theorem s_canMelt (j : Nat) (hj : j < 9) (M : m_Mem) : m_cl 19 [.ref (m_lc 7 j 0)] M = some (.inl (some (.int (if 0 < M 14 j 12 0 ∧ 0 ≤ M 7 j 0 6 ∧ M 7 j 0 6 < 12 then 1 else 0))), M) := by
  have h7 := m_d7 hj
  have h14 := m_d14 hj (by decide : 12 < 13)
  rw [e0_canMeltLot_en]
  by_cases h1 : 0 < M 14 j 12 0
  · have h2 : ¬ M 14 j 12 0 ≤ 0 := Int32.not_le.mpr h1
    by_cases h3 : 0 ≤ M 7 j 0 6
    · have h4 : ¬ M 7 j 0 6 < 0 := Int32.not_lt.mpr h3
      by_cases h5 : M 7 j 0 6 < 12
      · have h6 : ¬ 12 ≤ M 7 j 0 6 := Int32.not_le.mpr h5
        simp only [e0_canMeltLot_0, e0_canMeltLot_1, e0_canMeltLot_4, e0_canMeltLot_7, e0_canMeltLot_10, e0_canMeltLot_11, e0_canMeltLot_14, e0_canMeltLot_17, e0_canMeltLot_18, e0_canMeltLot_21, e0_canMeltLot_23, e0_canMeltLot_26, e0_canMeltLot_27, e0_canMeltLot_30, e0_canMeltLot_31, h7, h14, h1, h2, h3, h4, h5, h6, if_true, if_false, not_false_eq_true, m_nok11, and_self]
      · have h6 : 12 ≤ M 7 j 0 6 := Int32.not_lt.mp h5
        simp only [e0_canMeltLot_0, e0_canMeltLot_1, e0_canMeltLot_4, e0_canMeltLot_7, e0_canMeltLot_10, e0_canMeltLot_11, e0_canMeltLot_14, e0_canMeltLot_17, e0_canMeltLot_18, e0_canMeltLot_21, e0_canMeltLot_23, e0_canMeltLot_26, e0_canMeltLot_27, e0_canMeltLot_30, e0_canMeltLot_31, h7, h14, h1, h2, h3, h4, h5, h6, if_true, if_false, not_false_eq_true, m_nok10, and_false]
    · have h4 : M 7 j 0 6 < 0 := Int32.not_le.mp h3
      simp only [e0_canMeltLot_0, e0_canMeltLot_1, e0_canMeltLot_4, e0_canMeltLot_7, e0_canMeltLot_10, e0_canMeltLot_11, e0_canMeltLot_14, e0_canMeltLot_17, e0_canMeltLot_18, e0_canMeltLot_21, e0_canMeltLot_23, e0_canMeltLot_26, e0_canMeltLot_27, e0_canMeltLot_30, e0_canMeltLot_31, h7, h14, h1, h2, h3, h4, if_true, if_false, not_false_eq_true, m_nok10, and_false, false_and]
  · have h2 : M 14 j 12 0 ≤ 0 := Int32.not_lt.mp h1
    simp only [e0_canMeltLot_0, e0_canMeltLot_1, e0_canMeltLot_4, e0_canMeltLot_7, e0_canMeltLot_10, e0_canMeltLot_11, e0_canMeltLot_14, e0_canMeltLot_17, e0_canMeltLot_18, e0_canMeltLot_21, e0_canMeltLot_23, e0_canMeltLot_26, e0_canMeltLot_27, e0_canMeltLot_30, e0_canMeltLot_31, h7, h14, h1, h2, if_true, if_false, not_false_eq_true, m_nok10, false_and]
def f_melt (M : m_Mem) (j b : Nat) : m_Mem :=
  m_set (m_set (m_set (m_set (m_cp M 14 j b j 12 3) 7 j 0 6 (nI (b + 1))) 14 j 12 0 0) 14 j 12 1 0) 14 j 12 2 0
theorem s_melt (j : Nat) (hj : j < 9) (b : Nat) (hb : b < 12) (M : m_Mem) (ho : M 7 j 0 6 = nI b) : m_cl 20 [.ref (m_lc 7 j 0)] M = some (.inl none, f_melt M j b) := by
  have h7 := m_d7 hj
  have h10 := m_d10 hj
  have h14 := m_d14 hj (by decide : 12 < 13)
  have hne : ¬ (j = j ∧ 12 = b) := fun q => by omega
  have e7 : m_cp M 14 j b j 12 3 7 j 0 6 = nI b := by rw [m_cp_o 3 7 j 0 6 (fun q => absurd q.1 (by decide))]; exact ho
  have h14b := m_d14 hj (show b < 13 by omega)
  rw [e0_meltLot_en]
  simp only [e0_meltLot_0, e0_meltLot_1, e0_meltLot_4, e0_meltLot_5, e0_meltLot_8, e0_meltLot_9, e0_meltLot_10, e0_meltLot_13, e0_meltLot_16, e0_meltLot_17, e0_meltLot_18, e0_meltLot_21, e0_meltLot_22, e0_meltLot_23, e0_meltLot_26, e0_meltLot_27, e0_meltLot_30, e0_meltLot_33, h7, h10, h14, h14b, hb, ho, s_gCopy j b j 12 hj (by omega) hj (by decide) M hne, m_cE_i, m_cE_v, m_cE_ite, m_kill, e7, nI_1, s_gEmpty j 12 hj (by decide : 12 < 13)]
  rfl
theorem s_canWait (j : Nat) (hj : j < 9) (k : Int32) (M : m_Mem) : m_cl 21 [.ref (m_lc 7 j 0), .int k] M = some (.inl (some (.int (if M 7 j 0 7 + k ≤ 9999 then 1 else 0))), M) := by
  have h7 := m_d7 hj
  rw [e0_canWait_en]
  by_cases h1 : M 7 j 0 7 + k ≤ 9999
  · have h2 : ¬ 9999 < M 7 j 0 7 + k := Int32.not_lt.mpr h1
    simp only [e0_canWait_0, e0_canWait_1, e0_canWait_4, e0_canWait_5, e0_canWait_6, e0_canWait_9, e0_canWait_12, e0_canWait_13, e0_canWait_16, e0_canWait_17, h7, h1, h2, if_true, if_false, not_false_eq_true, m_nok11]
  · have h2 : 9999 < M 7 j 0 7 + k := Int32.not_le.mp h1
    simp only [e0_canWait_0, e0_canWait_1, e0_canWait_4, e0_canWait_5, e0_canWait_6, e0_canWait_9, e0_canWait_12, e0_canWait_13, e0_canWait_16, e0_canWait_17, h7, h1, h2, if_true, if_false, not_false_eq_true, m_nok10]
def f_loss (M : m_Mem) (j d : Nat) : Int32 := M 12 j d 5 + M 12 j d 6 - f_worth M j (M 12 j d 4)
theorem s_loss (j : Nat) (hj : j < 9) (d : Nat) (hd : d < 8) (M : m_Mem) : m_cl 23 [.ref (m_lc 7 j 0), .ref (m_lc 12 j d)] M = some (.inl (some (.int (f_loss M j d))), M) := by
  have h7 := m_d7 hj
  have h12 := m_d12 hj hd
  rw [e0_lossBy_en]
  simp only [e0_lossBy_0, e0_lossBy_1, e0_lossBy_4, e0_lossBy_5, e0_lossBy_8, e0_lossBy_9, e0_lossBy_10, e0_lossBy_11, e0_lossBy_14, e0_lossBy_17, e0_lossBy_18, h7, h12, s_worth j hj, m_cE_i, m_cE_v, m_cE_ite, m_kill]
  rfl
theorem s_dProp8 (j : Nat) (hj : j < 9) (d : Nat) (hd : d < 8) (k : Nat) (hk : k < 9) (M : m_Mem) : m_cl 24 [.ref (m_lc 7 j 0), .int (nI d), .int (nI k)] M = some (.inl (some (.int (if k = 8 then (if 0 < f_loss M j d then 1 else 0) else M 12 j d k))), M) := by
  have h7 := m_d7 hj
  have h8 := m_d8 hj
  have h12 := m_d12 hj hd
  rw [e0_diggerProperty_en]
  by_cases hk8 : k = 8
  · subst hk8
    by_cases h1 : 0 < f_loss M j d
    · have h2 : ¬ f_loss M j d ≤ 0 := Int32.not_le.mpr h1
      simp only [e0_diggerProperty_0, e0_diggerProperty_1, e0_diggerProperty_3, e0_diggerProperty_6, e0_diggerProperty_7, e0_diggerProperty_8, e0_diggerProperty_11, e0_diggerProperty_12, e0_diggerProperty_13, e0_diggerProperty_16, e0_diggerProperty_19, e0_diggerProperty_20, e0_diggerProperty_23, e0_diggerProperty_24, e0_diggerProperty_25, e0_diggerProperty_26, e0_diggerProperty_29, e0_diggerProperty_30, e0_diggerProperty_31, e0_diggerProperty_32, e0_diggerProperty_35, h7, h8, h12, hd, s_loss j hj d hd, m_cE_i, m_cE_v, m_cE_ite, m_kill, h1, h2, if_true, if_false, not_false_eq_true, (by decide : nI 8 = 8), ne_eq]
    · have h2 : f_loss M j d ≤ 0 := Int32.not_lt.mp h1
      simp only [e0_diggerProperty_0, e0_diggerProperty_1, e0_diggerProperty_3, e0_diggerProperty_6, e0_diggerProperty_7, e0_diggerProperty_8, e0_diggerProperty_11, e0_diggerProperty_12, e0_diggerProperty_13, e0_diggerProperty_16, e0_diggerProperty_19, e0_diggerProperty_20, e0_diggerProperty_23, e0_diggerProperty_24, e0_diggerProperty_25, e0_diggerProperty_26, e0_diggerProperty_29, e0_diggerProperty_30, e0_diggerProperty_31, e0_diggerProperty_32, e0_diggerProperty_35, h7, h8, h12, hd, s_loss j hj d hd, m_cE_i, m_cE_v, m_cE_ite, m_kill, h1, h2, if_true, if_false, not_false_eq_true, (by decide : nI 8 = 8), ne_eq]
  · have h3 : ¬ nI k = 8 := fun q => hk8 ((nI_eq (by omega) (by decide)).mp (q : nI k = nI 8))
    simp only [e0_diggerProperty_0, e0_diggerProperty_1, e0_diggerProperty_3, e0_diggerProperty_6, e0_diggerProperty_7, e0_diggerProperty_8, e0_diggerProperty_11, e0_diggerProperty_12, e0_diggerProperty_13, e0_diggerProperty_16, e0_diggerProperty_19, e0_diggerProperty_20, e0_diggerProperty_23, e0_diggerProperty_24, e0_diggerProperty_25, e0_diggerProperty_26, e0_diggerProperty_29, e0_diggerProperty_30, e0_diggerProperty_31, e0_diggerProperty_32, e0_diggerProperty_35, h7, h8, h12, hd, s_dProp j d hj hd k (by omega), m_cE_i, m_cE_v, m_cE_ite, m_kill, h3, hk8, if_true, if_false, not_false_eq_true]
def f_bp (M : m_Mem) (j b k : Nat) : Int32 := match k with
  | 0 => M 14 j b 0
  | 1 => M 14 j b 1
  | 2 => if 0 < M 14 j b 0 then 1000 * M 14 j b 1 / M 14 j b 0 else 0
  | 3 => M 14 j b 2
  | _ => f_worth M j (M 14 j b 1)
theorem s_bProp (j : Nat) (hj : j < 9) (b : Nat) (hb : b < 12) (k : Nat) (hk : k < 5) (M : m_Mem) : m_cl 25 [.ref (m_lc 7 j 0), .int (nI b), .int (nI k)] M = some (.inl (some (.int (f_bp M j b k))), M) := by
  have h7 := m_d7 hj
  have h10 := m_d10 hj
  have h14 := m_d14 hj (show b < 13 by omega)
  rw [e0_barProperty_en]
  have hk : k = 0 ∨ k = 1 ∨ k = 2 ∨ k = 3 ∨ k = 4 := by omega
  rcases hk with rfl | rfl | rfl | rfl | rfl
  all_goals simp (config := { decide := true }) only [e0_barProperty_0, e0_barProperty_1, e0_barProperty_4, e0_barProperty_5, e0_barProperty_6, e0_barProperty_7, e0_barProperty_8, e0_barProperty_40, e0_barProperty_41, e0_barProperty_44, e0_barProperty_45, e0_barProperty_46, e0_barProperty_49, e0_barProperty_50, e0_barProperty_51, e0_barProperty_54, e0_barProperty_55, e0_barProperty_56, e0_barProperty_59, e0_barProperty_60, e0_barProperty_61, e0_barProperty_62, e0_barProperty_65, e0_barProperty_68, h7, h10, h14, hb, s_gFin j b hj (show b < 13 by omega), s_worth j hj, m_cE_i, m_cE_v, m_cE_ite, m_kill, if_true, if_false, f_bp]
