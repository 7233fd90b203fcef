/-! FINESCRIP follows an order: by its kind. -/
section FOLLOW2
variable {M M' : m_Mem} {x : Int32}
theorem a_fo_w (d g : Int32) (hx : m_nok 1 x = true) (h : m_cl 78 [.ref (m_lc 1 0 0), .int d, .int g] M = some (.inl (some (.int x)), M')) : m_cl 77 [.ref (m_lc 1 0 0), .int 119, .int d, .int g] M = some (.inl (some (.int x)), M') := by
  rw [e5_follow_en]
  simp (config := { decide := true }) only [e5_follow_0, e5_follow_1, e5_follow_44, e5_follow_45, e5_follow_46, e5_follow_47, e5_follow_50, e5_follow_51, e5_follow_52, e5_follow_53, e5_follow_54, e5_follow_57, e5_follow_58, e5_follow_59, e5_follow_60, e5_follow_61, e5_follow_64, e5_follow_65, e5_follow_66, e5_follow_69, e5_follow_70, e5_follow_71, e5_follow_74, h, hx, m_cE_i, m_cE_v, m_cE_ite, m_kill, if_true, if_false, not_false_eq_true]
theorem a_fo_c (d g : Int32) (hx : m_nok 1 x = true) (h : m_cl 79 [.ref (m_lc 1 0 0), .int d, .int g] M = some (.inl (some (.int x)), M')) : m_cl 77 [.ref (m_lc 1 0 0), .int 99, .int d, .int g] M = some (.inl (some (.int x)), M') := by
  rw [e5_follow_en]
  simp (config := { decide := true }) only [e5_follow_0, e5_follow_1, e5_follow_44, e5_follow_45, e5_follow_46, e5_follow_47, e5_follow_50, e5_follow_51, e5_follow_52, e5_follow_53, e5_follow_54, e5_follow_57, e5_follow_58, e5_follow_59, e5_follow_60, e5_follow_61, e5_follow_64, e5_follow_65, e5_follow_66, e5_follow_69, e5_follow_70, e5_follow_71, e5_follow_74, h, hx, m_cE_i, m_cE_v, m_cE_ite, m_kill, if_true, if_false, not_false_eq_true]
theorem a_fo_g (d g : Int32) (hx : m_nok 1 x = true) (h : m_cl 80 [.ref (m_lc 1 0 0), .int d, .int g] M = some (.inl (some (.int x)), M')) : m_cl 77 [.ref (m_lc 1 0 0), .int 103, .int d, .int g] M = some (.inl (some (.int x)), M') := by
  rw [e5_follow_en]
  simp (config := { decide := true }) only [e5_follow_0, e5_follow_1, e5_follow_44, e5_follow_45, e5_follow_46, e5_follow_47, e5_follow_50, e5_follow_51, e5_follow_52, e5_follow_53, e5_follow_54, e5_follow_57, e5_follow_58, e5_follow_59, e5_follow_60, e5_follow_61, e5_follow_64, e5_follow_65, e5_follow_66, e5_follow_69, e5_follow_70, e5_follow_71, e5_follow_74, h, hx, m_cE_i, m_cE_v, m_cE_ite, m_kill, if_true, if_false, not_false_eq_true]
theorem a_fo_m (d g : Int32) (hx : m_nok 1 x = true) (h : m_cl 81 [.ref (m_lc 1 0 0)] M = some (.inl (some (.int x)), M')) : m_cl 77 [.ref (m_lc 1 0 0), .int 109, .int d, .int g] M = some (.inl (some (.int x)), M') := by
  rw [e5_follow_en]
  simp (config := { decide := true }) only [e5_follow_0, e5_follow_1, e5_follow_44, e5_follow_45, e5_follow_46, e5_follow_47, e5_follow_50, e5_follow_51, e5_follow_52, e5_follow_53, e5_follow_54, e5_follow_57, e5_follow_58, e5_follow_59, e5_follow_60, e5_follow_61, e5_follow_64, e5_follow_65, e5_follow_66, e5_follow_69, e5_follow_70, e5_follow_71, e5_follow_74, h, hx, m_cE_i, m_cE_v, m_cE_ite, m_kill, if_true, if_false, not_false_eq_true]
theorem a_fo_n (d g : Int32) (hx : m_nok 1 x = true) (h : m_cl 82 [.ref (m_lc 1 0 0)] M = some (.inl (some (.int x)), M')) : m_cl 77 [.ref (m_lc 1 0 0), .int 110, .int d, .int g] M = some (.inl (some (.int x)), M') := by
  rw [e5_follow_en]
  simp (config := { decide := true }) only [e5_follow_0, e5_follow_1, e5_follow_44, e5_follow_45, e5_follow_46, e5_follow_47, e5_follow_50, e5_follow_51, e5_follow_52, e5_follow_53, e5_follow_54, e5_follow_57, e5_follow_58, e5_follow_59, e5_follow_60, e5_follow_61, e5_follow_64, e5_follow_65, e5_follow_66, e5_follow_69, e5_follow_70, e5_follow_71, e5_follow_74, h, hx, m_cE_i, m_cE_v, m_cE_ite, m_kill, if_true, if_false, not_false_eq_true]
end FOLLOW2
