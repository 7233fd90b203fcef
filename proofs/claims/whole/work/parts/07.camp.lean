/-! CAMP: what its methods do, in equations. j: the camp's number. -/
def f_told (M : m_Mem) (j : Nat) (g : Int32) : Int32 := g * (1000 + M 7 j 0 8) / 1000
def f_worth (M : m_Mem) (j : Nat) (f : Int32) : Int32 := f * M 11 j 0 1 / 10
def f_price (M : m_Mem) (j : Nat) (g f : Int32) : Int32 := f_worth M j (f_told M j g * f / 1000)
def f_priceN (M : m_Mem) (j : Nat) (g : Int32) : Int32 := f_price M j g (M 11 j 0 0)
def f_fee (M : m_Mem) (j : Nat) (g : Int32) : Int32 := M 11 j 0 2 * f_priceN M j g / 100
def f_pay (M : m_Mem) (j : Nat) (g : Int32) : Int32 := f_priceN M j g - f_fee M j g
theorem m_d7 {j : Nat} (h : j < 9) : m_dom 7 j 0 = true := by
  show (Nat.blt j 9 && true) = true
  rw [show Nat.blt j 9 = true from Nat.ble_eq_true_of_le h]
  rfl
theorem m_d11 {j : Nat} (h : j < 9) : m_dom 11 j 0 = true := by
  show (Nat.blt j 9 && true) = true
  rw [show Nat.blt j 9 = true from Nat.ble_eq_true_of_le h]
  rfl
theorem m_k0 : (0 : Int32) = nI 0 := rfl
theorem m_k1 : (1 : Int32) = nI 1 := rfl
theorem m_k2 : (2 : Int32) = nI 2 := rfl
theorem s_told (j : Nat) (hj : j < 9) (g : Int32) (M : m_Mem) : m_cl 8 [.ref (m_lc 7 j 0), .int g] M = some (.inl (some (.int (f_told M j g))), M) := by
  have h7 := m_d7 hj
  rw [e0_toldWeight_en]
  simp only [e0_toldWeight_0, e0_toldWeight_1, e0_toldWeight_4, e0_toldWeight_5, e0_toldWeight_8, e0_toldWeight_9, e0_toldWeight_10, e0_toldWeight_13, e0_toldWeight_14, h7, (by decide : ¬ (1000 : Int32) = 0), not_false_eq_true]
  rfl
theorem s_worth (j : Nat) (hj : j < 9) (f : Int32) (M : m_Mem) : m_cl 9 [.ref (m_lc 7 j 0), .int f] M = some (.inl (some (.int (f_worth M j f))), M) := by
  have h7 := m_d7 hj
  have h11 := m_d11 hj
  rw [e0_worthOf_en]
  simp only [e0_worthOf_0, e0_worthOf_1, e0_worthOf_2, e0_worthOf_5, e0_worthOf_6, e0_worthOf_7, e0_worthOf_8, e0_worthOf_10, e0_worthOf_11, h7, h11, (by decide : ¬ (10 : Int32) = 0), not_false_eq_true]
  rfl
theorem s_priceFor (j : Nat) (hj : j < 9) (g f : Int32) (M : m_Mem) : m_cl 10 [.ref (m_lc 7 j 0), .int g, .int f] M = some (.inl (some (.int (f_price M j g f))), M) := by
  have h7 := m_d7 hj
  rw [e0_priceFor_en]
  simp only [e0_priceFor_0, e0_priceFor_1, e0_priceFor_2, e0_priceFor_3, e0_priceFor_6, e0_priceFor_7, e0_priceFor_8, e0_priceFor_11, e0_priceFor_12, e0_priceFor_15, h7, s_told j hj, s_worth j hj, m_cE_i, m_cE_v, m_cE_ite, m_kill, (by decide : ¬ (1000 : Int32) = 0), not_false_eq_true]
  rfl
theorem s_priceNow (j : Nat) (hj : j < 9) (g : Int32) (M : m_Mem) : m_cl 11 [.ref (m_lc 7 j 0), .int g] M = some (.inl (some (.int (f_priceN M j g))), M) := by
  have h7 := m_d7 hj
  have h11 := m_d11 hj
  rw [e0_priceNow_en]
  simp only [e0_priceNow_0, e0_priceNow_1, e0_priceNow_2, e0_priceNow_3, e0_priceNow_6, e0_priceNow_7, e0_priceNow_8, e0_priceNow_11, h7, h11, s_priceFor j hj, m_cE_i, m_cE_v, m_cE_ite, m_kill]
  rfl
theorem s_feeFor (j : Nat) (hj : j < 9) (g : Int32) (M : m_Mem) : m_cl 12 [.ref (m_lc 7 j 0), .int g] M = some (.inl (some (.int (f_fee M j g))), M) := by
  have h7 := m_d7 hj
  have h11 := m_d11 hj
  rw [e0_feeFor_en]
  simp only [e0_feeFor_0, e0_feeFor_1, e0_feeFor_4, e0_feeFor_5, e0_feeFor_6, e0_feeFor_7, e0_feeFor_8, e0_feeFor_11, e0_feeFor_12, e0_feeFor_14, e0_feeFor_15, h7, h11, s_priceNow j hj, m_cE_i, m_cE_v, m_cE_ite, m_kill, (by decide : ¬ (100 : Int32) = 0), not_false_eq_true]
  rfl
theorem s_payFor (j : Nat) (hj : j < 9) (g : Int32) (M : m_Mem) : m_cl 13 [.ref (m_lc 7 j 0), .int g] M = some (.inl (some (.int (f_pay M j g))), M) := by
  have h7 := m_d7 hj
  rw [e0_payFor_en]
  simp only [e0_payFor_0, e0_payFor_1, e0_payFor_2, e0_payFor_5, e0_payFor_6, e0_payFor_7, e0_payFor_10, e0_payFor_11, h7, s_priceNow j hj, s_feeFor j hj, m_cE_i, m_cE_v, m_cE_ite, m_kill]
  rfl
/-- claims with diggers among the first n -/
def f_tk (M : m_Mem) (j : Nat) : Nat → Int32
  | 0 => 0
  | n + 1 => if M 13 j n 1 = -1 then f_tk M j n else f_tk M j n + 1
theorem m_d13 {j c : Nat} (h : j < 9) (hc : c < 10) : m_dom 13 j c = true := by
  show (Nat.blt j 9 && Nat.blt c 10) = true
  rw [show Nat.blt j 9 = true from Nat.ble_eq_true_of_le h, show Nat.blt c 10 = true from Nat.ble_eq_true_of_le hc]
  rfl
theorem m_d9 {j : Nat} (h : j < 9) : m_dom 9 j 0 = true := by
  show (Nat.blt j 9 && true) = true
  rw [show Nat.blt j 9 = true from Nat.ble_eq_true_of_le h]
  rfl
theorem s_taken_l (j : Nat) (hj : j < 9) (M : m_Mem) : ∀ (k n : Nat), n + k = 10 → m_E 7 4 [some (.ref (m_lc 7 j 0)), some (.int (f_tk M j n)), some (.int (nI n))] [] M = some (.inl (some (.int (f_tk M j 10))), M) := by
  have h7 := m_d7 hj
  have h9 := m_d9 hj
  intro k
  induction k with
  | zero =>
    intro n hn
    have e : n = 10 := by omega
    subst e
    simp only [e0_takenClaims_0, e0_takenClaims_1, e0_takenClaims_2, e0_takenClaims_3, e0_takenClaims_4, e0_takenClaims_5, e0_takenClaims_7, e0_takenClaims_10, e0_takenClaims_11, e0_takenClaims_14, e0_takenClaims_15, e0_takenClaims_16, e0_takenClaims_19, e0_takenClaims_20, e0_takenClaims_23, e0_takenClaims_26, e0_takenClaims_29, e0_takenClaims_32, e0_takenClaims_33, (by decide : (10 : Int32) ≤ nI 10), if_true]
  | succ k ih =>
    intro n hn
    have hlt : n < 10 := by omega
    have h13 := m_d13 hj hlt
    have hc : ¬ (10 : Int32) ≤ nI n := nI_ge hlt (by decide)
    have ih2 := ih (n + 1) (by omega)
    rw [e0_takenClaims_4]
    simp only [e0_takenClaims_5, e0_takenClaims_7, e0_takenClaims_10, e0_takenClaims_11, e0_takenClaims_14, e0_takenClaims_15, e0_takenClaims_16, e0_takenClaims_19, e0_takenClaims_20, e0_takenClaims_23, e0_takenClaims_26, e0_takenClaims_29, e0_takenClaims_32, e0_takenClaims_33, h7, h9, h13, hlt, hc, if_false, nI_1, m_kill]
    by_cases h : M 13 j n 1 = -1
    · simp only [f_tk, h, if_true] at ih2 ⊢
      exact ih2
    · simp only [f_tk, h, if_false] at ih2 ⊢
      exact ih2
theorem s_taken (j : Nat) (hj : j < 9) (M : m_Mem) : m_cl 7 [.ref (m_lc 7 j 0)] M = some (.inl (some (.int (f_tk M j 10))), M) := by
  rw [e0_takenClaims_en]
  simp only [e0_takenClaims_0, e0_takenClaims_1, e0_takenClaims_2, e0_takenClaims_3, m_kill]
  exact s_taken_l j hj M 10 0 rfl
