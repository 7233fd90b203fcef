/-! THE LAW's loop (by wip/gen/g75.py). -/
section LOOP
variable {M : m_Mem} {n N B L S i : Nat}
theorem x_arm (hT : r_T M M n N B L) (hc : 0 ≤ M 28 0 0 0 ∧ M 28 0 0 0 < 100000) (hs : M 27 0 0 0 = nI S) (hS : S < 2 ^ 31) (hi : i + 2 < S) : x_ok M i 32 := by
  intro l5 l6 l7 l8
  have i0 := x_in (i := i) hs hS (by omega)
  have c0 : (nI i).toNatClampNeg = i := nI_clamp (by omega)
  simp only [eL_law_32, eL_law_33, eL_law_35, eL_law_36, eL_law_38, i0, c0]
  rw [eL_law_39]
  generalize M 26 0 0 i &&& 31 = x

  by_cases h0 : x = 0
  · rw [if_pos h0]
    exact x_digger hT hc hs hS hi l5 l6 l7 l8
  rw [if_neg h0]

  by_cases h1 : x = 1
  · rw [if_pos h1]
    exact x_stake hT hc hs hS hi l5 l6 l7 l8
  rw [if_neg h1]

  by_cases h2 : x = 2
  · rw [if_pos h2]
    exact x_leave hT hc hs hS hi l5 l6 l7 l8
  rw [if_neg h2]

  by_cases h3 : x = 3
  · rw [if_pos h3]
    exact x_vein hT hc hs hS hi l5 l6 l7 l8
  rw [if_neg h3]

  by_cases h4 : x = 4
  · rw [if_pos h4]
    exact x_weigh hT hc hs hS hi l5 l6 l7 l8
  rw [if_neg h4]

  by_cases h5 : x = 5
  · rw [if_pos h5]
    exact x_buy hT hc hs hS hi l5 l6 l7 l8
  rw [if_neg h5]

  by_cases h6 : x = 6
  · rw [if_pos h6]
    exact x_melt hT hc hs hS hi l5 l6 l7 l8
  rw [if_neg h6]

  by_cases h7 : x = 7
  · rw [if_pos h7]
    exact x_adjust hT hc hs hS hi l5 l6 l7 l8
  rw [if_neg h7]

  by_cases h8 : x = 8
  · rw [if_pos h8]
    exact x_pass hT hc hs hS hi l5 l6 l7 l8
  rw [if_neg h8]

  by_cases h9 : x = 9
  · rw [if_pos h9]
    exact x_set hT hc hs hS hi l5 l6 l7 l8
  rw [if_neg h9]

  by_cases h10 : x = 10
  · rw [if_pos h10]
    exact x_append hT hc hs hS hi l5 l6 l7 l8
  rw [if_neg h10]

  by_cases h11 : x = 11
  · rw [if_pos h11]
    exact x_clearBuffer hT l5 l6 l7 l8
  rw [if_neg h11]

  by_cases h12 : x = 12
  · rw [if_pos h12]
    exact x_firstError hT l5 l6 l7 l8
  rw [if_neg h12]

  by_cases h13 : x = 13
  · rw [if_pos h13]
    exact x_live hT hc hs hS hi l5 l6 l7 l8
  rw [if_neg h13]

  by_cases h14 : x = 14
  · rw [if_pos h14]
    exact x_keep hT hc hs hS hi l5 l6 l7 l8
  rw [if_neg h14]

  by_cases h15 : x = 15
  · rw [if_pos h15]
    exact x_goBack hT hc hs hS hi l5 l6 l7 l8
  rw [if_neg h15]

  by_cases h16 : x = 16
  · rw [if_pos h16]
    exact x_undo hT hc hs hS hi l5 l6 l7 l8
  rw [if_neg h16]

  by_cases h17 : x = 17
  · rw [if_pos h17]
    exact x_diggerOf hT hc hs hS hi l5 l6 l7 l8
  rw [if_neg h17]

  by_cases h18 : x = 18
  · rw [if_pos h18]
    exact x_claim hT hc hs hS hi l5 l6 l7 l8
  rw [if_neg h18]

  by_cases h19 : x = 19
  · rw [if_pos h19]
    exact x_bar hT hc hs hS hi l5 l6 l7 l8
  rw [if_neg h19]

  by_cases h20 : x = 20
  · rw [if_pos h20]
    exact x_count hT hc hs hS hi l5 l6 l7 l8
  rw [if_neg h20]

  by_cases h21 : x = 21
  · rw [if_pos h21]
    exact x_setting hT hc hs hS hi l5 l6 l7 l8
  rw [if_neg h21]

  by_cases h22 : x = 22
  · rw [if_pos h22]
    exact x_ifWeighed hT hc hs hS hi l5 l6 l7 l8
  rw [if_neg h22]

  by_cases h23 : x = 23
  · rw [if_pos h23]
    exact x_grainsFor hT hc hs hS hi l5 l6 l7 l8
  rw [if_neg h23]

  by_cases h24 : x = 24
  · rw [if_pos h24]
    exact x_worst hT l5 l6 l7 l8
  rw [if_neg h24]

  by_cases h25 : x = 25
  · rw [if_pos h25]
    exact x_safeFineness hT l5 l6 l7 l8
  rw [if_neg h25]

  by_cases h26 : x = 26
  · rw [if_pos h26]
    exact x_fineShare hT l5 l6 l7 l8
  rw [if_neg h26]

  by_cases h27 : x = 27
  · rw [if_pos h27]
    exact x_digest hT l5 l6 l7 l8
  rw [if_neg h27]

  exact ⟨l5, l6, l7, l8, M, rfl, ⟨⟨n, N, B, L, hT⟩, fun _ _ _ _ _ _ => rfl⟩, Or.inl rfl⟩
theorem x_end (hS : S < 2 ^ 31) (hi : i < 2 ^ 31 - 10) : nI S - 3 < nI i ↔ S < i + 3 := by
  rw [Int32.lt_iff_toInt_lt]
  have e3 : (3 : Int32).toInt = 3 := by decide
  have e1 := nI_toInt hS
  have e2 := @nI_toInt i (by omega)
  have e4 : (nI S - 3).toInt = (S : Int) - 3 := by
    rw [Int32.toInt_sub, e1, e3, Int.bmod_eq_of_le (by omega) (by omega)]
  rw [e4, e2]
  omega
theorem x_loop (hS : S < 50000) : ∀ (k i c : Nat) (M : m_Mem) (n N B L : Nat) (l5 l6 l7 l8 : Option Value), S < i + 3 * k + 3 → i < S + 4 → c + k < 100000 → M 28 0 0 0 = nI c → M 27 0 0 0 = nI S → r_T M M n N B L →
    ∃ M' c', m_E 203 23 [some (.ref (m_lc 26 0 0)), some (.ref (m_lc 1 0 0)), some (.ref (m_lc 15 0 0)), some (.ref (m_lc 22 0 0)), some (.int (nI i)), l5, l6, l7, l8] [] M = some (.inl (some (.int 1)), M') ∧ M' 28 0 0 0 = nI c' ∧ c' ≤ c + k := by
  intro k
  induction k with
  | zero =>
    intro i c M n N B L l5 l6 l7 l8 h1 h2 h3 hc hs hT
    have he : nI S - 3 < nI i := (x_end (by omega) (by omega)).mpr (by omega)
    refine ⟨M, c, ?_, hc, by omega⟩
    simp only [eL_law_23, eL_law_25, eL_law_26, eL_law_27, eL_law_28, eL_law_29, hs, he, if_true]
    simp only [eL_law_1569, eL_law_1570, m_nok11]
  | succ k ih =>
    intro i c M n N B L l5 l6 l7 l8 h1 h2 h3 hc hs hT
    by_cases hx : S < i + 3
    · have he : nI S - 3 < nI i := (x_end (by omega) (by omega)).mpr hx
      refine ⟨M, c, ?_, hc, by omega⟩
      simp only [eL_law_23, eL_law_25, eL_law_26, eL_law_27, eL_law_28, eL_law_29, hs, he, if_true]
      simp only [eL_law_1569, eL_law_1570, m_nok11]
    · have he : ¬ nI S - 3 < nI i := fun z => hx ((x_end (by omega) (by omega)).mp z)
      have hcc : 0 ≤ M 28 0 0 0 ∧ M 28 0 0 0 < 100000 := by
        rw [hc]
        exact ⟨nI_pos' (by omega), (nI_lt (by omega) (by decide) : nI c < nI 100000)⟩
      obtain ⟨l5', l6', l7', l8', M2, e, ⟨⟨n', N', B', L', hT2⟩, fr⟩, hcnt⟩ := x_arm hT hcc hs (by omega) (show i + 2 < S by omega) l5 l6 l7 l8
      have hs2 : M2 27 0 0 0 = nI S := by rw [fr _ _ _ _ (by omega) (by omega)]; exact hs
      have a3 : nI i + 3 = nI (i + 3) := nI_add i 3
      have hc2 : ∃ c2, c2 ≤ c + 1 ∧ M2 28 0 0 0 = nI c2 := by
        rcases hcnt with q | q
        · exact ⟨c, by omega, by rw [q, hc]⟩
        · exact ⟨c + 1, by omega, by rw [q, hc, nI_1]⟩
      obtain ⟨c2, g1, g2⟩ := hc2
      obtain ⟨M', c', r1, r2, r3⟩ := ih (i + 3) c2 M2 n' N' B' L' l5' l6' l7' l8' (by omega) (by omega) (by omega) g2 hs2 hT2
      refine ⟨M', c', ?_, r2, by omega⟩
      rw [← r1]
      rw [eL_law_23]
      simp only [eL_law_25, eL_law_26, eL_law_27, eL_law_28, eL_law_29, hs, he, if_false]
      rw [e]
      simp only [eL_law_1563, eL_law_1566, a3, m_kill]
theorem x_run {M : m_Mem} {S : Nat} (hS : S ≤ 1536) (hT : r_T M M n N B L) (hc : M 28 0 0 0 = 0) (hs : M 27 0 0 0 = nI S) (l5 l6 l7 l8 : Option Value) :
    ∃ q M', m_run q 203 23 [some (.ref (m_lc 26 0 0)), some (.ref (m_lc 1 0 0)), some (.ref (m_lc 15 0 0)), some (.ref (m_lc 22 0 0)), some (.int 0), l5, l6, l7, l8] [] M = some (.inl (some (.int 1)), M') ∧ m_dc M M' ≤ 1536 := by
  obtain ⟨M', c', r1, r2, r3⟩ := x_loop (S := S) (by omega) S 0 0 M n N B L l5 l6 l7 l8 (by omega) (by omega) (by omega) hc hs hT
  obtain ⟨q, hq⟩ := m_E_inv r1
  refine ⟨q, M', hq, ?_⟩
  unfold m_dc m_cnt
  rw [r2, nI_clamp (by omega)]
  omega
end LOOP
