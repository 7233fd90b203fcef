/-! THE LAW'S CALLS: what the class answers, or a number for what it throws (by program: g78.py). -/
section CALLS
variable {M M' : m_Mem} {v : Int32}
theorem u_digger (h : m_cl 54 [.ref (m_lc 1 0 0)] M = some (.inl (some (.int v)), M')) : m_cl 83 [.ref (m_lc 1 0 0)] M = some (.inl (some (.int v)), M') := by
  rw [eL_digger_en]
  simp only [eL_digger_0, eL_digger_1, eL_digger_4, h, m_cE_i]
theorem u_digger_S (h : m_cl 54 [.ref (m_lc 1 0 0)] M = some (.inr "java/lang/IllegalStateException", M')) (hc : 0 ≤ M' 28 0 0 0 ∧ M' 28 0 0 0 < 100000) : m_cl 83 [.ref (m_lc 1 0 0)] M = some (.inl (some (.int (-13))), m_bump M') := by
  rw [eL_digger_en]
  simp only [eL_digger_0, eL_digger_1, eL_digger_4, h]
  exact m_cE_x (by decide +kernel) hc
theorem u_stake (a1 a2 : Int32) (h : m_cl 55 [.ref (m_lc 1 0 0), .int a1, .int a2] M = some (.inl (some (.int v)), M')) : m_cl 84 [.ref (m_lc 1 0 0), .int a1, .int a2] M = some (.inl (some (.int v)), M') := by
  rw [eL_stake_en]
  simp only [eL_stake_0, eL_stake_1, eL_stake_2, eL_stake_3, eL_stake_6, h, m_cE_i]
theorem u_stake_O (a1 a2 : Int32) (h : m_cl 55 [.ref (m_lc 1 0 0), .int a1, .int a2] M = some (.inr "java/lang/IndexOutOfBoundsException", M')) (hc : 0 ≤ M' 28 0 0 0 ∧ M' 28 0 0 0 < 100000) : m_cl 84 [.ref (m_lc 1 0 0), .int a1, .int a2] M = some (.inl (some (.int (-11))), m_bump M') := by
  rw [eL_stake_en]
  simp only [eL_stake_0, eL_stake_1, eL_stake_2, eL_stake_3, eL_stake_6, h]
  exact m_cE_x (by decide +kernel) hc
theorem u_stake_A (a1 a2 : Int32) (h : m_cl 55 [.ref (m_lc 1 0 0), .int a1, .int a2] M = some (.inr "java/lang/IllegalArgumentException", M')) (hc : 0 ≤ M' 28 0 0 0 ∧ M' 28 0 0 0 < 100000) : m_cl 84 [.ref (m_lc 1 0 0), .int a1, .int a2] M = some (.inl (some (.int (-12))), m_bump M') := by
  rw [eL_stake_en]
  simp only [eL_stake_0, eL_stake_1, eL_stake_2, eL_stake_3, eL_stake_6, h]
  exact m_cE_x (by decide +kernel) hc
theorem u_stake_S (a1 a2 : Int32) (h : m_cl 55 [.ref (m_lc 1 0 0), .int a1, .int a2] M = some (.inr "java/lang/IllegalStateException", M')) (hc : 0 ≤ M' 28 0 0 0 ∧ M' 28 0 0 0 < 100000) : m_cl 84 [.ref (m_lc 1 0 0), .int a1, .int a2] M = some (.inl (some (.int (-13))), m_bump M') := by
  rw [eL_stake_en]
  simp only [eL_stake_0, eL_stake_1, eL_stake_2, eL_stake_3, eL_stake_6, h]
  exact m_cE_x (by decide +kernel) hc
theorem u_leave (a1 : Int32) (h : m_cl 56 [.ref (m_lc 1 0 0), .int a1] M = some (.inl (some (.int v)), M')) : m_cl 85 [.ref (m_lc 1 0 0), .int a1] M = some (.inl (some (.int v)), M') := by
  rw [eL_leave_en]
  simp only [eL_leave_0, eL_leave_1, eL_leave_2, eL_leave_5, h, m_cE_i]
theorem u_leave_O (a1 : Int32) (h : m_cl 56 [.ref (m_lc 1 0 0), .int a1] M = some (.inr "java/lang/IndexOutOfBoundsException", M')) (hc : 0 ≤ M' 28 0 0 0 ∧ M' 28 0 0 0 < 100000) : m_cl 85 [.ref (m_lc 1 0 0), .int a1] M = some (.inl (some (.int (-11))), m_bump M') := by
  rw [eL_leave_en]
  simp only [eL_leave_0, eL_leave_1, eL_leave_2, eL_leave_5, h]
  exact m_cE_x (by decide +kernel) hc
theorem u_leave_S (a1 : Int32) (h : m_cl 56 [.ref (m_lc 1 0 0), .int a1] M = some (.inr "java/lang/IllegalStateException", M')) (hc : 0 ≤ M' 28 0 0 0 ∧ M' 28 0 0 0 < 100000) : m_cl 85 [.ref (m_lc 1 0 0), .int a1] M = some (.inl (some (.int (-13))), m_bump M') := by
  rw [eL_leave_en]
  simp only [eL_leave_0, eL_leave_1, eL_leave_2, eL_leave_5, h]
  exact m_cE_x (by decide +kernel) hc
theorem u_vein (a1 a2 : Int32) (h : m_cl 57 [.ref (m_lc 1 0 0), .int a1, .int a2] M = some (.inl (some (.int v)), M')) : m_cl 86 [.ref (m_lc 1 0 0), .int a1, .int a2] M = some (.inl (some (.int v)), M') := by
  rw [eL_vein_en]
  simp only [eL_vein_0, eL_vein_1, eL_vein_2, eL_vein_3, eL_vein_6, h, m_cE_i]
theorem u_vein_A (a1 a2 : Int32) (h : m_cl 57 [.ref (m_lc 1 0 0), .int a1, .int a2] M = some (.inr "java/lang/IllegalArgumentException", M')) (hc : 0 ≤ M' 28 0 0 0 ∧ M' 28 0 0 0 < 100000) : m_cl 86 [.ref (m_lc 1 0 0), .int a1, .int a2] M = some (.inl (some (.int (-12))), m_bump M') := by
  rw [eL_vein_en]
  simp only [eL_vein_0, eL_vein_1, eL_vein_2, eL_vein_3, eL_vein_6, h]
  exact m_cE_x (by decide +kernel) hc
theorem u_weigh (a1 a2 : Int32) (h : m_cl 58 [.ref (m_lc 1 0 0), .int a1, .int a2] M = some (.inl (some (.int v)), M')) : m_cl 87 [.ref (m_lc 1 0 0), .int a1, .int a2] M = some (.inl (some (.int v)), M') := by
  rw [eL_weigh_en]
  simp only [eL_weigh_0, eL_weigh_1, eL_weigh_2, eL_weigh_3, eL_weigh_6, h, m_cE_i]
theorem u_weigh_O (a1 a2 : Int32) (h : m_cl 58 [.ref (m_lc 1 0 0), .int a1, .int a2] M = some (.inr "java/lang/IndexOutOfBoundsException", M')) (hc : 0 ≤ M' 28 0 0 0 ∧ M' 28 0 0 0 < 100000) : m_cl 87 [.ref (m_lc 1 0 0), .int a1, .int a2] M = some (.inl (some (.int (-11))), m_bump M') := by
  rw [eL_weigh_en]
  simp only [eL_weigh_0, eL_weigh_1, eL_weigh_2, eL_weigh_3, eL_weigh_6, h]
  exact m_cE_x (by decide +kernel) hc
theorem u_weigh_A (a1 a2 : Int32) (h : m_cl 58 [.ref (m_lc 1 0 0), .int a1, .int a2] M = some (.inr "java/lang/IllegalArgumentException", M')) (hc : 0 ≤ M' 28 0 0 0 ∧ M' 28 0 0 0 < 100000) : m_cl 87 [.ref (m_lc 1 0 0), .int a1, .int a2] M = some (.inl (some (.int (-12))), m_bump M') := by
  rw [eL_weigh_en]
  simp only [eL_weigh_0, eL_weigh_1, eL_weigh_2, eL_weigh_3, eL_weigh_6, h]
  exact m_cE_x (by decide +kernel) hc
theorem u_weigh_S (a1 a2 : Int32) (h : m_cl 58 [.ref (m_lc 1 0 0), .int a1, .int a2] M = some (.inr "java/lang/IllegalStateException", M')) (hc : 0 ≤ M' 28 0 0 0 ∧ M' 28 0 0 0 < 100000) : m_cl 87 [.ref (m_lc 1 0 0), .int a1, .int a2] M = some (.inl (some (.int (-13))), m_bump M') := by
  rw [eL_weigh_en]
  simp only [eL_weigh_0, eL_weigh_1, eL_weigh_2, eL_weigh_3, eL_weigh_6, h]
  exact m_cE_x (by decide +kernel) hc
theorem u_buy (a1 a2 : Int32) (h : m_cl 59 [.ref (m_lc 1 0 0), .int a1, .int a2] M = some (.inl (some (.int v)), M')) : m_cl 88 [.ref (m_lc 1 0 0), .int a1, .int a2] M = some (.inl (some (.int v)), M') := by
  rw [eL_buy_en]
  simp only [eL_buy_0, eL_buy_1, eL_buy_2, eL_buy_3, eL_buy_6, h, m_cE_i]
theorem u_buy_O (a1 a2 : Int32) (h : m_cl 59 [.ref (m_lc 1 0 0), .int a1, .int a2] M = some (.inr "java/lang/IndexOutOfBoundsException", M')) (hc : 0 ≤ M' 28 0 0 0 ∧ M' 28 0 0 0 < 100000) : m_cl 88 [.ref (m_lc 1 0 0), .int a1, .int a2] M = some (.inl (some (.int (-11))), m_bump M') := by
  rw [eL_buy_en]
  simp only [eL_buy_0, eL_buy_1, eL_buy_2, eL_buy_3, eL_buy_6, h]
  exact m_cE_x (by decide +kernel) hc
theorem u_buy_A (a1 a2 : Int32) (h : m_cl 59 [.ref (m_lc 1 0 0), .int a1, .int a2] M = some (.inr "java/lang/IllegalArgumentException", M')) (hc : 0 ≤ M' 28 0 0 0 ∧ M' 28 0 0 0 < 100000) : m_cl 88 [.ref (m_lc 1 0 0), .int a1, .int a2] M = some (.inl (some (.int (-12))), m_bump M') := by
  rw [eL_buy_en]
  simp only [eL_buy_0, eL_buy_1, eL_buy_2, eL_buy_3, eL_buy_6, h]
  exact m_cE_x (by decide +kernel) hc
theorem u_buy_S (a1 a2 : Int32) (h : m_cl 59 [.ref (m_lc 1 0 0), .int a1, .int a2] M = some (.inr "java/lang/IllegalStateException", M')) (hc : 0 ≤ M' 28 0 0 0 ∧ M' 28 0 0 0 < 100000) : m_cl 88 [.ref (m_lc 1 0 0), .int a1, .int a2] M = some (.inl (some (.int (-13))), m_bump M') := by
  rw [eL_buy_en]
  simp only [eL_buy_0, eL_buy_1, eL_buy_2, eL_buy_3, eL_buy_6, h]
  exact m_cE_x (by decide +kernel) hc
theorem u_melt (h : m_cl 60 [.ref (m_lc 1 0 0)] M = some (.inl (some (.int v)), M')) : m_cl 89 [.ref (m_lc 1 0 0)] M = some (.inl (some (.int v)), M') := by
  rw [eL_melt_en]
  simp only [eL_melt_0, eL_melt_1, eL_melt_4, h, m_cE_i]
theorem u_melt_S (h : m_cl 60 [.ref (m_lc 1 0 0)] M = some (.inr "java/lang/IllegalStateException", M')) (hc : 0 ≤ M' 28 0 0 0 ∧ M' 28 0 0 0 < 100000) : m_cl 89 [.ref (m_lc 1 0 0)] M = some (.inl (some (.int (-13))), m_bump M') := by
  rw [eL_melt_en]
  simp only [eL_melt_0, eL_melt_1, eL_melt_4, h]
  exact m_cE_x (by decide +kernel) hc
theorem u_adjust (a1 : Int32) (h : m_cl 61 [.ref (m_lc 1 0 0), .int a1] M = some (.inl (some (.int v)), M')) : m_cl 90 [.ref (m_lc 1 0 0), .int a1] M = some (.inl (some (.int v)), M') := by
  rw [eL_adjust_en]
  simp only [eL_adjust_0, eL_adjust_1, eL_adjust_2, eL_adjust_5, h, m_cE_i]
theorem u_adjust_A (a1 : Int32) (h : m_cl 61 [.ref (m_lc 1 0 0), .int a1] M = some (.inr "java/lang/IllegalArgumentException", M')) (hc : 0 ≤ M' 28 0 0 0 ∧ M' 28 0 0 0 < 100000) : m_cl 90 [.ref (m_lc 1 0 0), .int a1] M = some (.inl (some (.int (-12))), m_bump M') := by
  rw [eL_adjust_en]
  simp only [eL_adjust_0, eL_adjust_1, eL_adjust_2, eL_adjust_5, h]
  exact m_cE_x (by decide +kernel) hc
theorem u_pass (a1 : Int32) (h : m_cl 62 [.ref (m_lc 1 0 0), .int a1] M = some (.inl (some (.int v)), M')) : m_cl 91 [.ref (m_lc 1 0 0), .int a1] M = some (.inl (some (.int v)), M') := by
  rw [eL_pass_en]
  simp only [eL_pass_0, eL_pass_1, eL_pass_2, eL_pass_5, h, m_cE_i]
theorem u_pass_A (a1 : Int32) (h : m_cl 62 [.ref (m_lc 1 0 0), .int a1] M = some (.inr "java/lang/IllegalArgumentException", M')) (hc : 0 ≤ M' 28 0 0 0 ∧ M' 28 0 0 0 < 100000) : m_cl 91 [.ref (m_lc 1 0 0), .int a1] M = some (.inl (some (.int (-12))), m_bump M') := by
  rw [eL_pass_en]
  simp only [eL_pass_0, eL_pass_1, eL_pass_2, eL_pass_5, h]
  exact m_cE_x (by decide +kernel) hc
theorem u_pass_S (a1 : Int32) (h : m_cl 62 [.ref (m_lc 1 0 0), .int a1] M = some (.inr "java/lang/IllegalStateException", M')) (hc : 0 ≤ M' 28 0 0 0 ∧ M' 28 0 0 0 < 100000) : m_cl 91 [.ref (m_lc 1 0 0), .int a1] M = some (.inl (some (.int (-13))), m_bump M') := by
  rw [eL_pass_en]
  simp only [eL_pass_0, eL_pass_1, eL_pass_2, eL_pass_5, h]
  exact m_cE_x (by decide +kernel) hc
theorem u_set (a1 a2 : Int32) (h : m_cl 63 [.ref (m_lc 1 0 0), .int a1, .int a2] M = some (.inl (some (.int v)), M')) : m_cl 92 [.ref (m_lc 1 0 0), .int a1, .int a2] M = some (.inl (some (.int v)), M') := by
  rw [eL_set_en]
  simp only [eL_set_0, eL_set_1, eL_set_2, eL_set_3, eL_set_6, h, m_cE_i]
theorem u_set_O (a1 a2 : Int32) (h : m_cl 63 [.ref (m_lc 1 0 0), .int a1, .int a2] M = some (.inr "java/lang/IndexOutOfBoundsException", M')) (hc : 0 ≤ M' 28 0 0 0 ∧ M' 28 0 0 0 < 100000) : m_cl 92 [.ref (m_lc 1 0 0), .int a1, .int a2] M = some (.inl (some (.int (-11))), m_bump M') := by
  rw [eL_set_en]
  simp only [eL_set_0, eL_set_1, eL_set_2, eL_set_3, eL_set_6, h]
  exact m_cE_x (by decide +kernel) hc
theorem u_set_A (a1 a2 : Int32) (h : m_cl 63 [.ref (m_lc 1 0 0), .int a1, .int a2] M = some (.inr "java/lang/IllegalArgumentException", M')) (hc : 0 ≤ M' 28 0 0 0 ∧ M' 28 0 0 0 < 100000) : m_cl 92 [.ref (m_lc 1 0 0), .int a1, .int a2] M = some (.inl (some (.int (-12))), m_bump M') := by
  rw [eL_set_en]
  simp only [eL_set_0, eL_set_1, eL_set_2, eL_set_3, eL_set_6, h]
  exact m_cE_x (by decide +kernel) hc
theorem u_append (a1 : Int32) (h : m_cl 64 [.ref (m_lc 1 0 0), .int a1] M = some (.inl (some (.int v)), M')) : m_cl 93 [.ref (m_lc 1 0 0), .int a1] M = some (.inl (some (.int v)), M') := by
  rw [eL_append_en]
  simp only [eL_append_0, eL_append_1, eL_append_2, eL_append_5, h, m_cE_i]
theorem u_append_A (a1 : Int32) (h : m_cl 64 [.ref (m_lc 1 0 0), .int a1] M = some (.inr "java/lang/IllegalArgumentException", M')) (hc : 0 ≤ M' 28 0 0 0 ∧ M' 28 0 0 0 < 100000) : m_cl 93 [.ref (m_lc 1 0 0), .int a1] M = some (.inl (some (.int (-12))), m_bump M') := by
  rw [eL_append_en]
  simp only [eL_append_0, eL_append_1, eL_append_2, eL_append_5, h]
  exact m_cE_x (by decide +kernel) hc
theorem u_append_S (a1 : Int32) (h : m_cl 64 [.ref (m_lc 1 0 0), .int a1] M = some (.inr "java/lang/IllegalStateException", M')) (hc : 0 ≤ M' 28 0 0 0 ∧ M' 28 0 0 0 < 100000) : m_cl 93 [.ref (m_lc 1 0 0), .int a1] M = some (.inl (some (.int (-13))), m_bump M') := by
  rw [eL_append_en]
  simp only [eL_append_0, eL_append_1, eL_append_2, eL_append_5, h]
  exact m_cE_x (by decide +kernel) hc
theorem u_live (h : m_cl 66 [.ref (m_lc 1 0 0)] M = some (.inl (some (.int v)), M')) : m_cl 94 [.ref (m_lc 1 0 0)] M = some (.inl (some (.int v)), M') := by
  rw [eL_live_en]
  simp only [eL_live_0, eL_live_1, eL_live_4, h, m_cE_i]
theorem u_live_A (h : m_cl 66 [.ref (m_lc 1 0 0)] M = some (.inr "java/lang/IllegalArgumentException", M')) (hc : 0 ≤ M' 28 0 0 0 ∧ M' 28 0 0 0 < 100000) : m_cl 94 [.ref (m_lc 1 0 0)] M = some (.inl (some (.int (-12))), m_bump M') := by
  rw [eL_live_en]
  simp only [eL_live_0, eL_live_1, eL_live_4, h]
  exact m_cE_x (by decide +kernel) hc
theorem u_count (a1 : Int32) (h : m_cl 70 [.ref (m_lc 1 0 0), .int a1] M = some (.inl (some (.int v)), M')) : m_cl 95 [.ref (m_lc 1 0 0), .int a1] M = some (.inl (some (.int v)), M') := by
  rw [eL_count_en]
  simp only [eL_count_0, eL_count_1, eL_count_2, eL_count_5, h, m_cE_i]
theorem u_count_A (a1 : Int32) (h : m_cl 70 [.ref (m_lc 1 0 0), .int a1] M = some (.inr "java/lang/IllegalArgumentException", M')) (hc : 0 ≤ M' 28 0 0 0 ∧ M' 28 0 0 0 < 100000) : m_cl 95 [.ref (m_lc 1 0 0), .int a1] M = some (.inl (some (.int (-12))), m_bump M') := by
  rw [eL_count_en]
  simp only [eL_count_0, eL_count_1, eL_count_2, eL_count_5, h]
  exact m_cE_x (by decide +kernel) hc
theorem u_diggerOf (a1 a2 : Int32) (h : m_cl 67 [.ref (m_lc 1 0 0), .int a1, .int a2] M = some (.inl (some (.int v)), M')) : m_cl 96 [.ref (m_lc 1 0 0), .int a1, .int a2] M = some (.inl (some (.int v)), M') := by
  rw [eL_diggerOf_en]
  simp only [eL_diggerOf_0, eL_diggerOf_1, eL_diggerOf_2, eL_diggerOf_3, eL_diggerOf_6, h, m_cE_i]
theorem u_diggerOf_O (a1 a2 : Int32) (h : m_cl 67 [.ref (m_lc 1 0 0), .int a1, .int a2] M = some (.inr "java/lang/IndexOutOfBoundsException", M')) (hc : 0 ≤ M' 28 0 0 0 ∧ M' 28 0 0 0 < 100000) : m_cl 96 [.ref (m_lc 1 0 0), .int a1, .int a2] M = some (.inl (some (.int (-11))), m_bump M') := by
  rw [eL_diggerOf_en]
  simp only [eL_diggerOf_0, eL_diggerOf_1, eL_diggerOf_2, eL_diggerOf_3, eL_diggerOf_6, h]
  exact m_cE_x (by decide +kernel) hc
theorem u_diggerOf_A (a1 a2 : Int32) (h : m_cl 67 [.ref (m_lc 1 0 0), .int a1, .int a2] M = some (.inr "java/lang/IllegalArgumentException", M')) (hc : 0 ≤ M' 28 0 0 0 ∧ M' 28 0 0 0 < 100000) : m_cl 96 [.ref (m_lc 1 0 0), .int a1, .int a2] M = some (.inl (some (.int (-12))), m_bump M') := by
  rw [eL_diggerOf_en]
  simp only [eL_diggerOf_0, eL_diggerOf_1, eL_diggerOf_2, eL_diggerOf_3, eL_diggerOf_6, h]
  exact m_cE_x (by decide +kernel) hc
theorem u_claim (a1 a2 : Int32) (h : m_cl 68 [.ref (m_lc 1 0 0), .int a1, .int a2] M = some (.inl (some (.int v)), M')) : m_cl 97 [.ref (m_lc 1 0 0), .int a1, .int a2] M = some (.inl (some (.int v)), M') := by
  rw [eL_claim_en]
  simp only [eL_claim_0, eL_claim_1, eL_claim_2, eL_claim_3, eL_claim_6, h, m_cE_i]
theorem u_claim_A (a1 a2 : Int32) (h : m_cl 68 [.ref (m_lc 1 0 0), .int a1, .int a2] M = some (.inr "java/lang/IllegalArgumentException", M')) (hc : 0 ≤ M' 28 0 0 0 ∧ M' 28 0 0 0 < 100000) : m_cl 97 [.ref (m_lc 1 0 0), .int a1, .int a2] M = some (.inl (some (.int (-12))), m_bump M') := by
  rw [eL_claim_en]
  simp only [eL_claim_0, eL_claim_1, eL_claim_2, eL_claim_3, eL_claim_6, h]
  exact m_cE_x (by decide +kernel) hc
theorem u_bar (a1 a2 : Int32) (h : m_cl 69 [.ref (m_lc 1 0 0), .int a1, .int a2] M = some (.inl (some (.int v)), M')) : m_cl 98 [.ref (m_lc 1 0 0), .int a1, .int a2] M = some (.inl (some (.int v)), M') := by
  rw [eL_bar_en]
  simp only [eL_bar_0, eL_bar_1, eL_bar_2, eL_bar_3, eL_bar_6, h, m_cE_i]
theorem u_bar_O (a1 a2 : Int32) (h : m_cl 69 [.ref (m_lc 1 0 0), .int a1, .int a2] M = some (.inr "java/lang/IndexOutOfBoundsException", M')) (hc : 0 ≤ M' 28 0 0 0 ∧ M' 28 0 0 0 < 100000) : m_cl 98 [.ref (m_lc 1 0 0), .int a1, .int a2] M = some (.inl (some (.int (-11))), m_bump M') := by
  rw [eL_bar_en]
  simp only [eL_bar_0, eL_bar_1, eL_bar_2, eL_bar_3, eL_bar_6, h]
  exact m_cE_x (by decide +kernel) hc
theorem u_bar_A (a1 a2 : Int32) (h : m_cl 69 [.ref (m_lc 1 0 0), .int a1, .int a2] M = some (.inr "java/lang/IllegalArgumentException", M')) (hc : 0 ≤ M' 28 0 0 0 ∧ M' 28 0 0 0 < 100000) : m_cl 98 [.ref (m_lc 1 0 0), .int a1, .int a2] M = some (.inl (some (.int (-12))), m_bump M') := by
  rw [eL_bar_en]
  simp only [eL_bar_0, eL_bar_1, eL_bar_2, eL_bar_3, eL_bar_6, h]
  exact m_cE_x (by decide +kernel) hc
theorem u_setting (a1 : Int32) (h : m_cl 71 [.ref (m_lc 1 0 0), .int a1] M = some (.inl (some (.int v)), M')) : m_cl 99 [.ref (m_lc 1 0 0), .int a1] M = some (.inl (some (.int v)), M') := by
  rw [eL_setting_en]
  simp only [eL_setting_0, eL_setting_1, eL_setting_2, eL_setting_5, h, m_cE_i]
theorem u_setting_O (a1 : Int32) (h : m_cl 71 [.ref (m_lc 1 0 0), .int a1] M = some (.inr "java/lang/IndexOutOfBoundsException", M')) (hc : 0 ≤ M' 28 0 0 0 ∧ M' 28 0 0 0 < 100000) : m_cl 99 [.ref (m_lc 1 0 0), .int a1] M = some (.inl (some (.int (-11))), m_bump M') := by
  rw [eL_setting_en]
  simp only [eL_setting_0, eL_setting_1, eL_setting_2, eL_setting_5, h]
  exact m_cE_x (by decide +kernel) hc
end CALLS
