/-! ONE TURN of the law, whole; its loops. -/
section ACTS
variable {M : m_Mem} {L n N B c y w d : Nat} {z : Int32}
theorem x_lives (h : y_V M L n N B c) (hy : y < 10000000) (hw : 26 ≤ w) (hw2 : w < 30) : y_A (m_E 111 48 [some (.ref (m_lc 1 0 0)), some (.ref (m_lc 16 0 0)), some (.ref (m_lc 17 0 0)), some (.ref (m_lc 18 0 0)), some (.ref (m_lc 19 0 0)), some (.int z), some (.int (nI y)), some (.int (nI w)), some (.int (nI d)), none, none] [] M) L c := by
  have w3 : (3 : Int32) ≤ nI w := nI_le (a := 3) (by omega) (by omega)
  have w8 : (8 : Int32) ≤ nI w := nI_le (a := 8) (by omega) (by omega)
  have w16 : (16 : Int32) ≤ nI w := nI_le (a := 16) (by omega) (by omega)
  have w20 : (20 : Int32) ≤ nI w := nI_le (a := 20) (by omega) (by omega)
  have n20 : ¬ nI w = 20 := fun q => by have := (nI_eq (b := 20) (by omega) (by decide)).mp q; omega
  have n21 : ¬ nI w = 21 := fun q => by have := (nI_eq (b := 21) (by omega) (by decide)).mp q; omega
  have n24 : ¬ nI w = 24 := fun q => by have := (nI_eq (b := 24) (by omega) (by decide)).mp q; omega
  have n25 : ¬ nI w = 25 := fun q => by have := (nI_eq (b := 25) (by omega) (by decide)).mp q; omega
  have w24 : (24 : Int32) ≤ nI w := nI_le (a := 24) (by omega) (by omega)
  have w30 : ¬ (30 : Int32) ≤ nI w := nI_ge (b := 30) hw2 (by decide)
  obtain ⟨M2, l, hv⟩ := l_lives h hy
  refine ⟨M2, c, ?_, hv, Nat.le_succ _⟩
  simp only [eL_acts_48, eL_acts_50, eL_acts_51, eL_acts_140, eL_acts_142, eL_acts_144, eL_acts_188, eL_acts_190, eL_acts_192, eL_acts_252, eL_acts_254, eL_acts_256, w3, w8, w16, w20, if_true]
  simp only [eL_acts_315, eL_acts_317, eL_acts_319, eL_acts_345, eL_acts_347, eL_acts_349, eL_acts_405, eL_acts_407, eL_acts_409, eL_acts_459, eL_acts_461, eL_acts_463, eL_acts_564, eL_acts_566, eL_acts_568, n20, n21, n24, n25, w24, if_true, if_false]
  simp only [eL_acts_631, eL_acts_633, eL_acts_635, eL_acts_638, eL_acts_639, eL_acts_640, eL_acts_641, eL_acts_642, eL_acts_644, eL_acts_646, eL_acts_649, w30, l, m_cE_i, m_nok11, if_false]
theorem x_set (h : y_V M L n N B c) (hcn : c < 99999) (hy : y < 10000000) (hw : 30 ≤ w) (hw2 : w < 32) : y_A (m_E 111 48 [some (.ref (m_lc 1 0 0)), some (.ref (m_lc 16 0 0)), some (.ref (m_lc 17 0 0)), some (.ref (m_lc 18 0 0)), some (.ref (m_lc 19 0 0)), some (.int z), some (.int (nI y)), some (.int (nI w)), some (.int (nI d)), none, none] [] M) L c := by
  have w3 : (3 : Int32) ≤ nI w := nI_le (a := 3) (by omega) (by omega)
  have w8 : (8 : Int32) ≤ nI w := nI_le (a := 8) (by omega) (by omega)
  have w16 : (16 : Int32) ≤ nI w := nI_le (a := 16) (by omega) (by omega)
  have w20 : (20 : Int32) ≤ nI w := nI_le (a := 20) (by omega) (by omega)
  have n20 : ¬ nI w = 20 := fun q => by have := (nI_eq (b := 20) (by omega) (by decide)).mp q; omega
  have n21 : ¬ nI w = 21 := fun q => by have := (nI_eq (b := 21) (by omega) (by decide)).mp q; omega
  have n24 : ¬ nI w = 24 := fun q => by have := (nI_eq (b := 24) (by omega) (by decide)).mp q; omega
  have n25 : ¬ nI w = 25 := fun q => by have := (nI_eq (b := 25) (by omega) (by decide)).mp q; omega
  have w24 : (24 : Int32) ≤ nI w := nI_le (a := 24) (by omega) (by omega)
  have w30 : (30 : Int32) ≤ nI w := nI_le (a := 30) hw (by omega)
  have q5 : nI y / 5 = nI (y / 5) := nI_quo (b := 5) (by omega) (by decide) (by decide)
  have r5 : nI y - nI (y / 5) * 5 = nI (y % 5) := by
    rw [← q5]
    exact nI_remd (b := 5) (by omega) (by decide) (by decide)
  have ht : y % 5 < 5 := Nat.mod_lt _ (by decide)
  generalize y % 5 = t at ht r5
  have hx := fun v hv => x_set_t (z := z) h hcn (t := t) (v := v) ht hv (nI y) (nI w) (nI d)
  have n1 : ¬ (5 : Int32) = 0 := by decide
  have b8 : 8 + t < 13 := by omega
  simp only [eL_acts_48, eL_acts_50, eL_acts_51, eL_acts_140, eL_acts_142, eL_acts_144, eL_acts_188, eL_acts_190, eL_acts_192, eL_acts_252, eL_acts_254, eL_acts_256, w3, w8, w16, w20, if_true]
  simp only [eL_acts_315, eL_acts_317, eL_acts_319, eL_acts_345, eL_acts_347, eL_acts_349, eL_acts_405, eL_acts_407, eL_acts_409, eL_acts_459, eL_acts_461, eL_acts_463, eL_acts_564, eL_acts_566, eL_acts_568, n20, n21, n24, n25, w24, if_true, if_false]
  simp only [eL_acts_631, eL_acts_633, eL_acts_635, eL_acts_650, eL_acts_652, eL_acts_653, eL_acts_654, eL_acts_656, eL_acts_657, eL_acts_659, eL_acts_661, eL_acts_662, eL_acts_663, eL_acts_665, eL_acts_666, eL_acts_668, eL_acts_670, eL_acts_671, eL_acts_673, w30, q5, r5, n1, b8, g_a8, m_kill, not_false_eq_true, if_true]
  have ht5 : t = 0 ∨ t = 1 ∨ t = 2 ∨ t = 3 ∨ t = 4 := by omega
  rcases ht5 with rfl | rfl | rfl | rfl | rfl
  · have r : nI (y / 5) - nI (y / 5) / 501 * 501 = nI (y / 5 % 501) := nI_remd (b := 501) (by omega) (by decide) (by decide)
    have e : (500 : Int32) + nI (y / 5 % 501) = nI (500 + y / 5 % 501) := nI_add 500 _
    have := Nat.mod_lt (y / 5) (show 0 < 501 by decide)
    have hv := hx (500 + y / 5 % 501) (y_bw (l := 500) (u := 1000) (by omega) (by omega) (by decide))
    simp only [eL_acts_676, eL_acts_679, eL_acts_681, eL_acts_682, eL_acts_683, eL_acts_686, eL_acts_687, eL_acts_688, q5, r, e, n1, (by decide : nI 0 = 0), (by decide : ¬ (501 : Int32) = 0), not_false_eq_true, if_true]
    exact hv
  · have key : ∀ m : Nat, 0 < m → m ≤ 999 → y_A (m_E 111 717 [some (.ref (m_lc 1 0 0)), some (.ref (m_lc 16 0 0)), some (.ref (m_lc 17 0 0)), some (.ref (m_lc 18 0 0)), some (.ref (m_lc 19 0 0)), some (.int z), some (.int (nI y)), some (.int (nI w)), some (.int (nI d)), some (.int (nI 1)), some (.int (M 16 0 0 (8 + 1)))] [.int (nI m), .int (nI (y / 5)), .int 1, .int (nI (8 + 1)), .ref (m_lc 16 0 0)] M) L c := by
      intro m h0 hm
      have r := nI_remd (a := y / 5) (b := m) (by omega) (by omega) h0
      have ne := nI_ne0 h0 (show m < 2 ^ 31 by omega)
      have e : (1 : Int32) + nI (y / 5 % m) = nI (1 + y / 5 % m) := nI_add 1 _
      have := Nat.mod_lt (y / 5) h0
      have hv := hx (1 + y / 5 % m) (y_bw (l := 1) (u := 999) (by omega) (by omega) (by decide))
      simp only [eL_acts_717, eL_acts_718, eL_acts_719, r, e, ne, not_false_eq_true]
      exact hv
    simp only [eL_acts_691, eL_acts_693, eL_acts_694, eL_acts_697, eL_acts_698, eL_acts_700, eL_acts_701, eL_acts_702, eL_acts_704, eL_acts_705, eL_acts_706, q5, n1, (by decide : nI 1 = 1), (by decide : ¬ (1 : Int32) = 0), (by decide : ¬ (3 : Int32) = 0), not_false_eq_true, if_true, if_false]
    by_cases h3 : nI y - nI y / 3 * 3 = 0
    · rw [if_pos h3]
      simp only [eL_acts_709, eL_acts_712]
      exact key 999 (by decide) (by decide)
    · rw [if_neg h3]
      simp only [eL_acts_715]
      exact key 90 (by decide) (by decide)
  · have r : nI (y / 5) - nI (y / 5) / 51 * 51 = nI (y / 5 % 51) := nI_remd (b := 51) (by omega) (by decide) (by decide)
    have := Nat.mod_lt (y / 5) (show 0 < 51 by decide)
    have hv := hx (y / 5 % 51) (y_bw (l := 0) (u := 50) (by omega) (by omega) (by decide))
    simp only [eL_acts_691, eL_acts_693, eL_acts_694, eL_acts_722, eL_acts_724, eL_acts_725, eL_acts_728, eL_acts_730, eL_acts_731, eL_acts_732, eL_acts_734, eL_acts_735, q5, r, n1, (by decide : ¬ nI 2 = 0), (by decide : ¬ nI 2 = 1), (by decide : nI 2 = 2), (by decide : ¬ (2 : Int32) = 0), (by decide : ¬ (2 : Int32) = 1), (by decide : ¬ (51 : Int32) = 0), not_false_eq_true, if_true, if_false]
    exact hv
  · have r : nI (y / 5) - nI (y / 5) / 30 * 30 = nI (y / 5 % 30) := nI_remd (b := 30) (by omega) (by decide) (by decide)
    have e : (1 : Int32) + nI (y / 5 % 30) = nI (1 + y / 5 % 30) := nI_add 1 _
    have := Nat.mod_lt (y / 5) (show 0 < 30 by decide)
    have hv := hx (1 + y / 5 % 30) (y_bw (l := 1) (u := 30) (by omega) (by omega) (by decide))
    simp only [eL_acts_691, eL_acts_693, eL_acts_694, eL_acts_722, eL_acts_724, eL_acts_725, eL_acts_738, eL_acts_740, eL_acts_741, eL_acts_744, eL_acts_745, eL_acts_747, eL_acts_748, eL_acts_749, eL_acts_751, eL_acts_752, eL_acts_753, q5, r, e, n1, (by decide : nI 3 = 3), (by decide : ¬ (3 : Int32) = 0), (by decide : ¬ (3 : Int32) = 1), (by decide : ¬ (3 : Int32) = 2), (by decide : ¬ (30 : Int32) = 0), not_false_eq_true, if_true, if_false]
    exact hv
  · have key : ∀ m : Nat, 0 < m → m ≤ 99 → y_A (m_E 111 774 [some (.ref (m_lc 1 0 0)), some (.ref (m_lc 16 0 0)), some (.ref (m_lc 17 0 0)), some (.ref (m_lc 18 0 0)), some (.ref (m_lc 19 0 0)), some (.int z), some (.int (nI y)), some (.int (nI w)), some (.int (nI d)), some (.int (nI 4)), some (.int (M 16 0 0 (8 + 4)))] [.int (nI m), .int (nI (y / 5)), .int 1, .int (nI (8 + 4)), .ref (m_lc 16 0 0)] M) L c := by
      intro m h0 hm
      have r := nI_remd (a := y / 5) (b := m) (by omega) (by omega) h0
      have ne := nI_ne0 h0 (show m < 2 ^ 31 by omega)
      have e : (1 : Int32) + nI (y / 5 % m) = nI (1 + y / 5 % m) := nI_add 1 _
      have := Nat.mod_lt (y / 5) h0
      have hv := hx (1 + y / 5 % m) (y_bw (l := 1) (u := 99) (by omega) (by omega) (by decide))
      simp only [eL_acts_774, eL_acts_775, r, e, ne, not_false_eq_true]
      exact hv
    simp only [eL_acts_691, eL_acts_693, eL_acts_694, eL_acts_722, eL_acts_724, eL_acts_725, eL_acts_738, eL_acts_740, eL_acts_741, eL_acts_756, eL_acts_757, eL_acts_759, eL_acts_760, eL_acts_761, eL_acts_763, eL_acts_764, eL_acts_765, q5, n1, (by decide : nI 4 = 4), (by decide : ¬ (4 : Int32) = 0), (by decide : ¬ (4 : Int32) = 1), (by decide : ¬ (4 : Int32) = 2), (by decide : ¬ (4 : Int32) = 3), (by decide : ¬ (2 : Int32) = 0), not_false_eq_true, if_false]
    by_cases h3 : nI y - nI y / 2 * 2 = 0
    · rw [if_pos h3]
      simp only [eL_acts_768, eL_acts_770]
      exact key 99 (by decide) (by decide)
    · rw [if_neg h3]
      simp only [eL_acts_773]
      exact key 5 (by decide) (by decide)
theorem l_acts (h : y_V M L n N B c) (hcn : c < 99999) (z : Int32) : y_A (m_cl 111 [.ref (m_lc 1 0 0), .ref (m_lc 16 0 0), .ref (m_lc 17 0 0), .ref (m_lc 18 0 0), .ref (m_lc 19 0 0), .int z] M) L c := by
  obtain ⟨y, w, d, hy, hw, hd, e⟩ := x_head h z
  rw [e]
  by_cases h1 : w < 3
  · exact x_dig h hcn h1
  · by_cases h2 : w < 8
    · exact x_stake h hcn hy hd (by omega) h2
    · by_cases h3 : w < 16
      · exact x_weigh h hcn hy hd (by omega) h3
      · by_cases h4 : w < 20
        · exact x_buy h hcn hy hd (by omega) h4
        · by_cases h5 : w = 20
          · exact x_melt h hcn h5
          · by_cases h6 : w = 21
            · exact x_adjust h hcn hy h6
            · by_cases h7 : w < 24
              · exact x_pass h hcn hy (by omega) h7
              · by_cases h8 : w = 24
                · exact x_leave h hcn hd h8
                · by_cases h9 : w = 25
                  · exact x_vein h hcn hy h9
                  · by_cases h10 : w < 30
                    · exact x_lives h hy (by omega) h10
                    · exact x_set h hcn hy (by omega) hw
end ACTS
