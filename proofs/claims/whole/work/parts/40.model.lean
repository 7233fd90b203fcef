/-! THE MODEL: its accessors, in equations. Its place is (15,0,0), its numbers (16,0,0). -/
theorem m_k15 : m_dom 15 0 0 = true := rfl
theorem nI_mul (a b : Nat) : nI a * nI b = nI (a * b) := (Int32.ofNat_mul a b).symm
theorem g_x8 (d : Nat) : (8 : Int32) * nI d = nI (8 * d) := nI_mul 8 d
theorem g_x6 (d : Nat) : (6 : Int32) * nI d = nI (6 * d) := nI_mul 6 d
theorem g_x3 (d : Nat) : (3 : Int32) * nI d = nI (3 * d) := nI_mul 3 d
theorem g_x173 (d : Nat) : (173 : Int32) * nI d = nI (173 * d) := nI_mul 173 d
theorem g_a13 (d : Nat) : (13 : Int32) + nI d = nI (13 + d) := nI_add 13 d
theorem g_a77 (d : Nat) : (77 : Int32) + nI d = nI (77 + d) := nI_add 77 d
theorem g_a137 (d : Nat) : (137 : Int32) + nI d = nI (137 + d) := nI_add 137 d
theorem g_a8 (d : Nat) : (8 : Int32) + nI d = nI (8 + d) := nI_add 8 d
theorem g_in (v lo hi : Int32) (M : m_Mem) : m_cl 107 [.int v, .int lo, .int hi] M = some (.inl (some (.int (f_bw v lo hi))), M) := by
  rw [e6_in_en]
  unfold f_bw
  by_cases h1 : lo ≤ v
  · have h2 : ¬ v < lo := Int32.not_lt.mpr h1
    by_cases h3 : v ≤ hi
    · have h4 : ¬ hi < v := Int32.not_lt.mpr h3
      simp only [e6_in_0, e6_in_1, e6_in_2, e6_in_5, e6_in_6, e6_in_7, e6_in_10, e6_in_11, e6_in_14, e6_in_15, h1, h2, h3, h4, if_true, if_false, not_false_eq_true, m_nok11, and_self]
    · have h4 : hi < v := Int32.not_le.mp h3
      simp only [e6_in_0, e6_in_1, e6_in_2, e6_in_5, e6_in_6, e6_in_7, e6_in_10, e6_in_11, e6_in_14, e6_in_15, h1, h2, h3, h4, if_true, if_false, not_false_eq_true, m_nok10, and_false]
  · have h2 : v < lo := Int32.not_le.mp h1
    simp only [e6_in_0, e6_in_1, e6_in_2, e6_in_5, e6_in_6, e6_in_7, e6_in_10, e6_in_11, e6_in_14, e6_in_15, h1, h2, if_true, if_false, not_false_eq_true, m_nok10, false_and]
theorem g_thrown (M : m_Mem) : m_cl 105 [.ref (m_lc 15 0 0)] M = some (.inl (some (.int (M 15 0 0 5))), M) := by
  rw [e6_thrown_en]
  simp only [e6_thrown_0, e6_thrown_1, e6_thrown_4]
theorem g_fails (k : Int32) (M : m_Mem) : m_cl 106 [.ref (m_lc 15 0 0), .int k] M = some (.inl (some (.int 0)), m_set M 15 0 0 5 k) := by
  rw [e6_fails_en]
  simp only [e6_fails_0, e6_fails_1, e6_fails_2, e6_fails_5, e6_fails_6]
/-- 1 if v is one of the first n -/
def f_is (v n : Int32) : Int32 := if 0 ≤ v ∧ v < n then 1 else 0
theorem g_isD (v : Int32) (M : m_Mem) : m_cl 109 [.ref (m_lc 15 0 0), .int v] M = some (.inl (some (.int (f_is v (M 16 0 0 1)))), M) := by
  rw [e6_isDigger_en]
  unfold f_is
  by_cases h1 : 0 ≤ v
  · have h2 : ¬ v < 0 := Int32.not_lt.mpr h1
    by_cases h3 : v < M 16 0 0 1
    · have h4 : ¬ M 16 0 0 1 ≤ v := Int32.not_le.mpr h3
      simp only [e6_isDigger_0, e6_isDigger_1, e6_isDigger_4, e6_isDigger_5, e6_isDigger_6, e6_isDigger_9, e6_isDigger_10, e6_isDigger_11, e6_isDigger_14, e6_isDigger_15, e6_isDigger_18, e6_isDigger_19, h1, h2, h3, h4, if_true, if_false, not_false_eq_true, m_nok11, and_self]
    · have h4 : M 16 0 0 1 ≤ v := Int32.not_lt.mp h3
      simp only [e6_isDigger_0, e6_isDigger_1, e6_isDigger_4, e6_isDigger_5, e6_isDigger_6, e6_isDigger_9, e6_isDigger_10, e6_isDigger_11, e6_isDigger_14, e6_isDigger_15, e6_isDigger_18, e6_isDigger_19, h1, h2, h3, h4, if_true, if_false, not_false_eq_true, m_nok10, and_false]
  · have h2 : v < 0 := Int32.not_le.mp h1
    simp only [e6_isDigger_0, e6_isDigger_1, e6_isDigger_4, e6_isDigger_5, e6_isDigger_6, e6_isDigger_9, e6_isDigger_10, e6_isDigger_11, e6_isDigger_14, e6_isDigger_15, e6_isDigger_18, e6_isDigger_19, h1, h2, if_true, if_false, not_false_eq_true, m_nok10, false_and]
theorem g_isC (v : Int32) (M : m_Mem) : m_cl 110 [.int v] M = some (.inl (some (.int (f_bw v 0 9))), M) := by
  rw [e6_isClaim_en]
  simp only [e6_isClaim_0, e6_isClaim_1, e6_isClaim_2, e6_isClaim_4, e6_isClaim_7, g_in, m_cE_i, m_cE_v, m_cE_ite, m_kill, f_bw_nok]
theorem g_of (d k : Nat) (hd : d < 8) (hk : k < 8) (M : m_Mem) : m_cl 111 [.ref (m_lc 15 0 0), .int (nI d), .int (nI k)] M = some (.inl (some (.int (M 16 0 0 (13 + 8 * d + k)))), M) := by
  have h : 13 + 8 * d + k < 173 := by omega
  rw [e6_of_en]
  simp only [e6_of_0, e6_of_1, e6_of_4, e6_of_6, e6_of_8, e6_of_9, e6_of_10, e6_of_11, e6_of_12, e6_of_13, e6_of_14, g_x8, g_a13, nI_add, h]
theorem g_adds (d k : Nat) (hd : d < 8) (hk : k < 8) (v : Int32) (M : m_Mem) : m_cl 112 [.ref (m_lc 15 0 0), .int (nI d), .int (nI k), .int v] M = some (.inl none, m_set M 16 0 0 (13 + 8 * d + k) (M 16 0 0 (13 + 8 * d + k) + v)) := by
  have h : 13 + 8 * d + k < 173 := by omega
  rw [e6_adds_en]
  simp only [e6_adds_0, e6_adds_1, e6_adds_4, e6_adds_6, e6_adds_8, e6_adds_9, e6_adds_10, e6_adds_11, e6_adds_12, e6_adds_13, e6_adds_14, e6_adds_15, e6_adds_16, e6_adds_17, e6_adds_18, g_x8, g_a13, nI_add, h]
theorem g_ofC (d k : Nat) (hd : d < 10) (hk : k < 6) (M : m_Mem) : m_cl 113 [.ref (m_lc 15 0 0), .int (nI d), .int (nI k)] M = some (.inl (some (.int (M 16 0 0 (77 + 6 * d + k)))), M) := by
  have h : 77 + 6 * d + k < 173 := by omega
  rw [e6_ofClaim_en]
  simp only [e6_ofClaim_0, e6_ofClaim_1, e6_ofClaim_4, e6_ofClaim_6, e6_ofClaim_8, e6_ofClaim_9, e6_ofClaim_10, e6_ofClaim_11, e6_ofClaim_12, e6_ofClaim_13, e6_ofClaim_14, g_x6, g_a77, nI_add, h]
theorem g_lays (d k : Nat) (hd : d < 10) (hk : k < 6) (v : Int32) (M : m_Mem) : m_cl 114 [.ref (m_lc 15 0 0), .int (nI d), .int (nI k), .int v] M = some (.inl none, m_set M 16 0 0 (77 + 6 * d + k) v) := by
  have h : 77 + 6 * d + k < 173 := by omega
  rw [e6_lays_en]
  simp only [e6_lays_0, e6_lays_1, e6_lays_4, e6_lays_6, e6_lays_8, e6_lays_9, e6_lays_10, e6_lays_11, e6_lays_12, e6_lays_13, e6_lays_14, e6_lays_15, g_x6, g_a77, nI_add, h]
theorem g_ofB (d k : Nat) (hd : d < 12) (hk : k < 3) (M : m_Mem) : m_cl 115 [.ref (m_lc 15 0 0), .int (nI d), .int (nI k)] M = some (.inl (some (.int (M 16 0 0 (137 + 3 * d + k)))), M) := by
  have h : 137 + 3 * d + k < 173 := by omega
  rw [e6_ofBar_en]
  simp only [e6_ofBar_0, e6_ofBar_1, e6_ofBar_4, e6_ofBar_7, e6_ofBar_8, e6_ofBar_9, e6_ofBar_10, e6_ofBar_11, e6_ofBar_12, e6_ofBar_13, e6_ofBar_14, g_x3, g_a137, nI_add, h]
theorem g_of0 (d : Nat) (hd : d < 8) (M : m_Mem) : m_cl 111 [.ref (m_lc 15 0 0), .int (nI d), .int 0] M = some (.inl (some (.int (M 16 0 0 (13 + 8 * d + 0)))), M) := g_of d 0 hd (by decide) M
theorem g_adds0 (d : Nat) (hd : d < 8) (v : Int32) (M : m_Mem) : m_cl 112 [.ref (m_lc 15 0 0), .int (nI d), .int 0, .int v] M = some (.inl none, m_set M 16 0 0 (13 + 8 * d + 0) (M 16 0 0 (13 + 8 * d + 0) + v)) := g_adds d 0 hd (by decide) v M
theorem g_of1 (d : Nat) (hd : d < 8) (M : m_Mem) : m_cl 111 [.ref (m_lc 15 0 0), .int (nI d), .int 1] M = some (.inl (some (.int (M 16 0 0 (13 + 8 * d + 1)))), M) := g_of d 1 hd (by decide) M
theorem g_adds1 (d : Nat) (hd : d < 8) (v : Int32) (M : m_Mem) : m_cl 112 [.ref (m_lc 15 0 0), .int (nI d), .int 1, .int v] M = some (.inl none, m_set M 16 0 0 (13 + 8 * d + 1) (M 16 0 0 (13 + 8 * d + 1) + v)) := g_adds d 1 hd (by decide) v M
theorem g_of2 (d : Nat) (hd : d < 8) (M : m_Mem) : m_cl 111 [.ref (m_lc 15 0 0), .int (nI d), .int 2] M = some (.inl (some (.int (M 16 0 0 (13 + 8 * d + 2)))), M) := g_of d 2 hd (by decide) M
theorem g_adds2 (d : Nat) (hd : d < 8) (v : Int32) (M : m_Mem) : m_cl 112 [.ref (m_lc 15 0 0), .int (nI d), .int 2, .int v] M = some (.inl none, m_set M 16 0 0 (13 + 8 * d + 2) (M 16 0 0 (13 + 8 * d + 2) + v)) := g_adds d 2 hd (by decide) v M
theorem g_of3 (d : Nat) (hd : d < 8) (M : m_Mem) : m_cl 111 [.ref (m_lc 15 0 0), .int (nI d), .int 3] M = some (.inl (some (.int (M 16 0 0 (13 + 8 * d + 3)))), M) := g_of d 3 hd (by decide) M
theorem g_adds3 (d : Nat) (hd : d < 8) (v : Int32) (M : m_Mem) : m_cl 112 [.ref (m_lc 15 0 0), .int (nI d), .int 3, .int v] M = some (.inl none, m_set M 16 0 0 (13 + 8 * d + 3) (M 16 0 0 (13 + 8 * d + 3) + v)) := g_adds d 3 hd (by decide) v M
theorem g_of4 (d : Nat) (hd : d < 8) (M : m_Mem) : m_cl 111 [.ref (m_lc 15 0 0), .int (nI d), .int 4] M = some (.inl (some (.int (M 16 0 0 (13 + 8 * d + 4)))), M) := g_of d 4 hd (by decide) M
theorem g_adds4 (d : Nat) (hd : d < 8) (v : Int32) (M : m_Mem) : m_cl 112 [.ref (m_lc 15 0 0), .int (nI d), .int 4, .int v] M = some (.inl none, m_set M 16 0 0 (13 + 8 * d + 4) (M 16 0 0 (13 + 8 * d + 4) + v)) := g_adds d 4 hd (by decide) v M
theorem g_of5 (d : Nat) (hd : d < 8) (M : m_Mem) : m_cl 111 [.ref (m_lc 15 0 0), .int (nI d), .int 5] M = some (.inl (some (.int (M 16 0 0 (13 + 8 * d + 5)))), M) := g_of d 5 hd (by decide) M
theorem g_adds5 (d : Nat) (hd : d < 8) (v : Int32) (M : m_Mem) : m_cl 112 [.ref (m_lc 15 0 0), .int (nI d), .int 5, .int v] M = some (.inl none, m_set M 16 0 0 (13 + 8 * d + 5) (M 16 0 0 (13 + 8 * d + 5) + v)) := g_adds d 5 hd (by decide) v M
theorem g_of6 (d : Nat) (hd : d < 8) (M : m_Mem) : m_cl 111 [.ref (m_lc 15 0 0), .int (nI d), .int 6] M = some (.inl (some (.int (M 16 0 0 (13 + 8 * d + 6)))), M) := g_of d 6 hd (by decide) M
theorem g_adds6 (d : Nat) (hd : d < 8) (v : Int32) (M : m_Mem) : m_cl 112 [.ref (m_lc 15 0 0), .int (nI d), .int 6, .int v] M = some (.inl none, m_set M 16 0 0 (13 + 8 * d + 6) (M 16 0 0 (13 + 8 * d + 6) + v)) := g_adds d 6 hd (by decide) v M
theorem g_of7 (d : Nat) (hd : d < 8) (M : m_Mem) : m_cl 111 [.ref (m_lc 15 0 0), .int (nI d), .int 7] M = some (.inl (some (.int (M 16 0 0 (13 + 8 * d + 7)))), M) := g_of d 7 hd (by decide) M
theorem g_adds7 (d : Nat) (hd : d < 8) (v : Int32) (M : m_Mem) : m_cl 112 [.ref (m_lc 15 0 0), .int (nI d), .int 7, .int v] M = some (.inl none, m_set M 16 0 0 (13 + 8 * d + 7) (M 16 0 0 (13 + 8 * d + 7) + v)) := g_adds d 7 hd (by decide) v M
theorem g_ofC0 (d : Nat) (hd : d < 10) (M : m_Mem) : m_cl 113 [.ref (m_lc 15 0 0), .int (nI d), .int 0] M = some (.inl (some (.int (M 16 0 0 (77 + 6 * d + 0)))), M) := g_ofC d 0 hd (by decide) M
theorem g_lays0 (d : Nat) (hd : d < 10) (v : Int32) (M : m_Mem) : m_cl 114 [.ref (m_lc 15 0 0), .int (nI d), .int 0, .int v] M = some (.inl none, m_set M 16 0 0 (77 + 6 * d + 0) v) := g_lays d 0 hd (by decide) v M
theorem g_ofC1 (d : Nat) (hd : d < 10) (M : m_Mem) : m_cl 113 [.ref (m_lc 15 0 0), .int (nI d), .int 1] M = some (.inl (some (.int (M 16 0 0 (77 + 6 * d + 1)))), M) := g_ofC d 1 hd (by decide) M
theorem g_lays1 (d : Nat) (hd : d < 10) (v : Int32) (M : m_Mem) : m_cl 114 [.ref (m_lc 15 0 0), .int (nI d), .int 1, .int v] M = some (.inl none, m_set M 16 0 0 (77 + 6 * d + 1) v) := g_lays d 1 hd (by decide) v M
theorem g_ofC2 (d : Nat) (hd : d < 10) (M : m_Mem) : m_cl 113 [.ref (m_lc 15 0 0), .int (nI d), .int 2] M = some (.inl (some (.int (M 16 0 0 (77 + 6 * d + 2)))), M) := g_ofC d 2 hd (by decide) M
theorem g_lays2 (d : Nat) (hd : d < 10) (v : Int32) (M : m_Mem) : m_cl 114 [.ref (m_lc 15 0 0), .int (nI d), .int 2, .int v] M = some (.inl none, m_set M 16 0 0 (77 + 6 * d + 2) v) := g_lays d 2 hd (by decide) v M
theorem g_ofC3 (d : Nat) (hd : d < 10) (M : m_Mem) : m_cl 113 [.ref (m_lc 15 0 0), .int (nI d), .int 3] M = some (.inl (some (.int (M 16 0 0 (77 + 6 * d + 3)))), M) := g_ofC d 3 hd (by decide) M
theorem g_lays3 (d : Nat) (hd : d < 10) (v : Int32) (M : m_Mem) : m_cl 114 [.ref (m_lc 15 0 0), .int (nI d), .int 3, .int v] M = some (.inl none, m_set M 16 0 0 (77 + 6 * d + 3) v) := g_lays d 3 hd (by decide) v M
theorem g_ofC4 (d : Nat) (hd : d < 10) (M : m_Mem) : m_cl 113 [.ref (m_lc 15 0 0), .int (nI d), .int 4] M = some (.inl (some (.int (M 16 0 0 (77 + 6 * d + 4)))), M) := g_ofC d 4 hd (by decide) M
theorem g_lays4 (d : Nat) (hd : d < 10) (v : Int32) (M : m_Mem) : m_cl 114 [.ref (m_lc 15 0 0), .int (nI d), .int 4, .int v] M = some (.inl none, m_set M 16 0 0 (77 + 6 * d + 4) v) := g_lays d 4 hd (by decide) v M
theorem g_ofC5 (d : Nat) (hd : d < 10) (M : m_Mem) : m_cl 113 [.ref (m_lc 15 0 0), .int (nI d), .int 5] M = some (.inl (some (.int (M 16 0 0 (77 + 6 * d + 5)))), M) := g_ofC d 5 hd (by decide) M
theorem g_lays5 (d : Nat) (hd : d < 10) (v : Int32) (M : m_Mem) : m_cl 114 [.ref (m_lc 15 0 0), .int (nI d), .int 5, .int v] M = some (.inl none, m_set M 16 0 0 (77 + 6 * d + 5) v) := g_lays d 5 hd (by decide) v M
theorem g_ofB0 (d : Nat) (hd : d < 12) (M : m_Mem) : m_cl 115 [.ref (m_lc 15 0 0), .int (nI d), .int 0] M = some (.inl (some (.int (M 16 0 0 (137 + 3 * d + 0)))), M) := g_ofB d 0 hd (by decide) M
theorem g_ofB1 (d : Nat) (hd : d < 12) (M : m_Mem) : m_cl 115 [.ref (m_lc 15 0 0), .int (nI d), .int 1] M = some (.inl (some (.int (M 16 0 0 (137 + 3 * d + 1)))), M) := g_ofB d 1 hd (by decide) M
theorem g_ofB2 (d : Nat) (hd : d < 12) (M : m_Mem) : m_cl 115 [.ref (m_lc 15 0 0), .int (nI d), .int 2] M = some (.inl (some (.int (M 16 0 0 (137 + 3 * d + 2)))), M) := g_ofB d 2 hd (by decide) M
def k_told (M : m_Mem) (g : Int32) : Int32 := g * (1000 + M 16 0 0 6) / 1000
def k_price (M : m_Mem) (g f : Int32) : Int32 := k_told M g * f / 1000 * M 16 0 0 9 / 10
def k_fee (M : m_Mem) (p : Int32) : Int32 := M 16 0 0 10 * p / 100
def k_pays (M : m_Mem) (g : Int32) : Int32 := k_price M g (M 16 0 0 8) - k_fee M (k_price M g (M 16 0 0 8))
def k_worth (M : m_Mem) (f : Int32) : Int32 := f * M 16 0 0 9 / 10
theorem g_told (g : Int32) (M : m_Mem) : m_cl 116 [.ref (m_lc 15 0 0), .int g] M = some (.inl (some (.int (k_told M g))), M) := by
  rw [e6_told_en]
  simp only [e6_told_0, e6_told_1, e6_told_4, e6_told_5, e6_told_8, e6_told_10, e6_told_11, e6_told_12, e6_told_13, e6_told_16, e6_told_17, (by decide : ¬ (1000 : Int32) = 0), not_false_eq_true]
  rfl
theorem g_price (g f : Int32) (M : m_Mem) : m_cl 117 [.ref (m_lc 15 0 0), .int g, .int f] M = some (.inl (some (.int (k_price M g f))), M) := by
  rw [e6_price_en]
  simp only [e6_price_0, e6_price_1, e6_price_2, e6_price_5, e6_price_6, e6_price_7, e6_price_10, e6_price_11, e6_price_12, e6_price_15, e6_price_17, e6_price_18, e6_price_19, e6_price_21, e6_price_22, g_told, m_cE_i, m_cE_v, m_cE_ite, m_kill, (by decide : ¬ (1000 : Int32) = 0), (by decide : ¬ (10 : Int32) = 0), not_false_eq_true]
  rfl
theorem g_fee (p : Int32) (M : m_Mem) : m_cl 118 [.ref (m_lc 15 0 0), .int p] M = some (.inl (some (.int (k_fee M p))), M) := by
  rw [e6_fee_en]
  simp only [e6_fee_0, e6_fee_1, e6_fee_4, e6_fee_6, e6_fee_7, e6_fee_8, e6_fee_9, e6_fee_11, e6_fee_12, (by decide : ¬ (100 : Int32) = 0), not_false_eq_true]
  rfl
theorem g_pays (g : Int32) (M : m_Mem) : m_cl 119 [.ref (m_lc 15 0 0), .int g] M = some (.inl (some (.int (k_pays M g))), M) := by
  rw [e6_paysFor_en]
  simp only [e6_paysFor_0, e6_paysFor_1, e6_paysFor_2, e6_paysFor_3, e6_paysFor_6, e6_paysFor_8, e6_paysFor_9, e6_paysFor_12, e6_paysFor_13, e6_paysFor_14, e6_paysFor_15, e6_paysFor_16, e6_paysFor_19, e6_paysFor_20, g_price, g_fee, m_cE_i, m_cE_v, m_cE_ite, m_kill]
  rfl
theorem g_worth (f : Int32) (M : m_Mem) : m_cl 120 [.ref (m_lc 15 0 0), .int f] M = some (.inl (some (.int (k_worth M f))), M) := by
  rw [e6_worth_en]
  simp only [e6_worth_0, e6_worth_1, e6_worth_2, e6_worth_5, e6_worth_7, e6_worth_8, e6_worth_9, e6_worth_11, e6_worth_12, (by decide : ¬ (10 : Int32) = 0), not_false_eq_true]
  rfl
theorem g_stakes (d c : Nat) (hd : d < 8) (hc : c < 10) (M : m_Mem) : m_cl 122 [.ref (m_lc 15 0 0), .int (nI d), .int (nI c)] M = some (.inl none, m_set (m_set (m_set (m_set M 16 0 0 (13 + 8 * d + 2) (nI c)) 16 0 0 (77 + 6 * c + 1) (nI d)) 16 0 0 (77 + 6 * c + 2) 0) 16 0 0 (77 + 6 * c + 5) 0) := by
  have h : 13 + 8 * d + 2 < 173 := by omega
  have e : nI (13 + 8 * d) + 2 = nI (13 + 8 * d + 2) := nI_add _ 2
  rw [e6_stakes_en]
  simp only [e6_stakes_0, e6_stakes_1, e6_stakes_4, e6_stakes_6, e6_stakes_8, e6_stakes_9, e6_stakes_10, e6_stakes_11, e6_stakes_12, e6_stakes_13, e6_stakes_14, e6_stakes_15, e6_stakes_16, e6_stakes_17, e6_stakes_18, e6_stakes_19, e6_stakes_22, e6_stakes_23, e6_stakes_24, e6_stakes_25, e6_stakes_26, e6_stakes_29, e6_stakes_30, e6_stakes_31, e6_stakes_32, e6_stakes_33, e6_stakes_36, g_x8, g_a13, e, h, g_lays1 c hc, g_lays2 c hc, g_lays5 c hc, m_cE_i, m_cE_v, m_cE_ite, m_kill]
theorem g_frees (d c : Nat) (hd : d < 8) (hc : c < 10) (M : m_Mem) (ho : M 16 0 0 (77 + 6 * c + 1) = nI d) : m_cl 123 [.ref (m_lc 15 0 0), .int (nI c)] M = some (.inl none, m_set (m_set (m_set M 16 0 0 (13 + 8 * d + 2) (-1)) 16 0 0 (77 + 6 * c + 1) (-1)) 16 0 0 (77 + 6 * c + 2) 0) := by
  have h : 13 + 8 * d + 2 < 173 := by omega
  have e : nI (13 + 8 * d) + 2 = nI (13 + 8 * d + 2) := nI_add _ 2
  rw [e6_frees_en]
  simp only [e6_frees_0, e6_frees_1, e6_frees_4, e6_frees_6, e6_frees_8, e6_frees_9, e6_frees_10, e6_frees_11, e6_frees_14, e6_frees_15, e6_frees_16, e6_frees_17, e6_frees_18, e6_frees_19, e6_frees_20, e6_frees_21, e6_frees_22, e6_frees_23, e6_frees_24, e6_frees_27, e6_frees_28, e6_frees_29, e6_frees_30, e6_frees_31, e6_frees_34, g_ofC1 c hc, ho, g_x8, g_a13, e, h, g_lays1 c hc, g_lays2 c hc, m_cE_i, m_cE_v, m_cE_ite, m_kill]
