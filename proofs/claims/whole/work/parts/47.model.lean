/-! THE MODEL: what is asked of it. -/
section MAPI4
variable {M : m_Mem} {p N B : Nat}
def k_lost (M : m_Mem) (d : Nat) : Int32 := M 16 0 0 (13 + 8 * d + 5) + M 16 0 0 (13 + 8 * d + 6) - k_worth M (M 16 0 0 (13 + 8 * d + 4))
theorem g_lost (d : Nat) (hd : d < 8) : m_cl 157 [.ref (m_lc 15 0 0), .int (nI d)] M = some (.inl (some (.int (k_lost M d))), M) := by
  rw [e6_lost_en]
  simp only [e6_lost_0, e6_lost_1, e6_lost_2, e6_lost_3, e6_lost_6, e6_lost_7, e6_lost_8, e6_lost_10, e6_lost_13, e6_lost_14, e6_lost_15, e6_lost_16, e6_lost_17, e6_lost_18, e6_lost_21, e6_lost_24, e6_lost_25, g_of5 d hd, g_of6 d hd, g_of4 d hd, g_worth, m_cE_i, m_cE_v, m_cE_ite, m_kill]
  rfl
def k_dp (M : m_Mem) (d k : Nat) : Int32 := if k < 8 then M 16 0 0 (13 + 8 * d + k) else if 0 < k_lost M d then 1 else 0
theorem g_ofD (d k : Nat) (hd : d < 8) (hk : k < 9) : m_cl 158 [.ref (m_lc 15 0 0), .int (nI d), .int (nI k)] M = some (.inl (some (.int (k_dp M d k))), M) := by
  rw [e6_ofDigger_en]
  unfold k_dp
  by_cases h : k < 8
  · have hle : ¬ (8 : Int32) ≤ nI k := nI_ge (b := 8) h (by decide)
    simp only [e6_ofDigger_0, e6_ofDigger_1, e6_ofDigger_3, e6_ofDigger_6, e6_ofDigger_7, e6_ofDigger_8, e6_ofDigger_9, e6_ofDigger_12, e6_ofDigger_15, e6_ofDigger_16, e6_ofDigger_17, e6_ofDigger_20, e6_ofDigger_23, e6_ofDigger_24, e6_ofDigger_27, e6_ofDigger_28, hle, h, g_of d k hd h, m_cE_i, m_cE_v, m_cE_ite, m_kill, if_true, if_false, not_false_eq_true]
  · have hle : (8 : Int32) ≤ nI k := (nI_le (by omega) (by omega) : nI 8 ≤ nI k)
    by_cases h1 : 0 < k_lost M d
    · have h2 : ¬ k_lost M d ≤ 0 := Int32.not_le.mpr h1
      simp only [e6_ofDigger_0, e6_ofDigger_1, e6_ofDigger_3, e6_ofDigger_6, e6_ofDigger_7, e6_ofDigger_8, e6_ofDigger_9, e6_ofDigger_12, e6_ofDigger_15, e6_ofDigger_16, e6_ofDigger_17, e6_ofDigger_20, e6_ofDigger_23, e6_ofDigger_24, e6_ofDigger_27, e6_ofDigger_28, hle, h, g_lost d hd, h1, h2, m_cE_i, m_cE_v, m_cE_ite, m_kill, if_true, if_false, not_false_eq_true]
    · have h2 : k_lost M d ≤ 0 := Int32.not_lt.mp h1
      simp only [e6_ofDigger_0, e6_ofDigger_1, e6_ofDigger_3, e6_ofDigger_6, e6_ofDigger_7, e6_ofDigger_8, e6_ofDigger_9, e6_ofDigger_12, e6_ofDigger_15, e6_ofDigger_16, e6_ofDigger_17, e6_ofDigger_20, e6_ofDigger_23, e6_ofDigger_24, e6_ofDigger_27, e6_ofDigger_28, hle, h, g_lost d hd, h1, h2, m_cE_i, m_cE_v, m_cE_ite, m_kill, if_true, if_false, not_false_eq_true]
theorem h_diggerOf (hJ : k_J M p N B) (d k : Int32) : m_cl 159 [.ref (m_lc 15 0 0), .int d, .int k] M =
    if f_is d (M 16 0 0 1) = 0 then k_x M 1 else if f_bw k 0 8 = 0 then k_x M 2 else some (.inl (some (.int (k_dp (k_0 M) d.toNatClampNeg k.toNatClampNeg))), k_0 M) := by
  rw [e6_diggerOf_en]
  rcases f_is_c d (M 16 0 0 1) with hh | hh
  · obtain ⟨d, hd, rfl⟩ := f_is1 (N := N) (by have := hJ.2.1.1; omega) (by rw [← hJ.2.1.2]; exact hh)
    have hd8 : d < 8 := by have := hJ.2.1.1; omega
    have cd : (nI d).toNatClampNeg = d := nI_clamp (by omega)
    rcases f_bw_c k 0 8 with hb | hb
    · obtain ⟨k, hk, rfl⟩ := f_bw_0n (U := 8) hb (by decide)
      have ck : (nI k).toNatClampNeg = k := nI_clamp (by omega)
      simp only [e6_diggerOf_0, e6_diggerOf_1, e6_diggerOf_2, e6_diggerOf_5, e6_diggerOf_6, e6_diggerOf_7, e6_diggerOf_10, e6_diggerOf_13, e6_diggerOf_14, e6_diggerOf_15, e6_diggerOf_18, e6_diggerOf_19, e6_diggerOf_20, e6_diggerOf_21, e6_diggerOf_23, e6_diggerOf_26, e6_diggerOf_29, e6_diggerOf_30, e6_diggerOf_31, e6_diggerOf_32, e6_diggerOf_35, e6_diggerOf_38, e6_diggerOf_39, e6_diggerOf_40, e6_diggerOf_43, k_0_e, g_isD, g_in, k_0_16, hh, hb, cd, ck, g_ofD d k hd8 (by omega), m_kill, m_cE_i, m_cE_v, m_cE_ite, m_kill, (by decide : ¬ (1 : Int32) = 0), ne_eq, if_true, if_false, not_false_eq_true]
    · simp only [e6_diggerOf_0, e6_diggerOf_1, e6_diggerOf_2, e6_diggerOf_5, e6_diggerOf_6, e6_diggerOf_7, e6_diggerOf_10, e6_diggerOf_13, e6_diggerOf_14, e6_diggerOf_15, e6_diggerOf_18, e6_diggerOf_19, e6_diggerOf_20, e6_diggerOf_21, e6_diggerOf_23, e6_diggerOf_26, e6_diggerOf_29, e6_diggerOf_30, e6_diggerOf_31, e6_diggerOf_32, e6_diggerOf_35, e6_diggerOf_38, e6_diggerOf_39, e6_diggerOf_40, e6_diggerOf_43, k_0_e, g_isD, g_in, k_0_16, hh, hb, g_fails, k_x, m_kill, m_cE_i, m_cE_v, m_cE_ite, m_kill, (by decide : ¬ (1 : Int32) = 0), ne_eq, if_true, if_false, not_false_eq_true]
  · simp only [e6_diggerOf_0, e6_diggerOf_1, e6_diggerOf_2, e6_diggerOf_5, e6_diggerOf_6, e6_diggerOf_7, e6_diggerOf_10, e6_diggerOf_13, e6_diggerOf_14, e6_diggerOf_15, e6_diggerOf_18, e6_diggerOf_19, e6_diggerOf_20, e6_diggerOf_21, e6_diggerOf_23, e6_diggerOf_26, e6_diggerOf_29, e6_diggerOf_30, e6_diggerOf_31, e6_diggerOf_32, e6_diggerOf_35, e6_diggerOf_38, e6_diggerOf_39, e6_diggerOf_40, e6_diggerOf_43, k_0_e, g_isD, k_0_16, hh, g_fails, k_x, m_kill, m_cE_i, m_cE_v, m_cE_ite, m_kill, ne_eq, if_true, if_false, not_false_eq_true]
theorem h_claim (c k : Int32) : m_cl 160 [.ref (m_lc 15 0 0), .int c, .int k] M =
    if f_bw c 0 9 = 0 then k_x M 1 else if f_bw k 0 4 = 0 then k_x M 1 else some (.inl (some (.int (M 16 0 0 (77 + 6 * c.toNatClampNeg + k.toNatClampNeg)))), k_0 M) := by
  rw [e6_claim_en]
  rcases f_bw_c c 0 9 with hh | hh
  · obtain ⟨c, hc, rfl⟩ := f_bw_0n (U := 9) hh (by decide)
    have cc : (nI c).toNatClampNeg = c := nI_clamp (by omega)
    rcases f_bw_c k 0 4 with hb | hb
    · obtain ⟨k, hk, rfl⟩ := f_bw_0n (U := 4) hb (by decide)
      have ck : (nI k).toNatClampNeg = k := nI_clamp (by omega)
      simp only [e6_claim_0, e6_claim_1, e6_claim_2, e6_claim_5, e6_claim_6, e6_claim_9, e6_claim_12, e6_claim_13, e6_claim_14, e6_claim_15, e6_claim_18, e6_claim_21, e6_claim_22, e6_claim_23, e6_claim_24, e6_claim_27, e6_claim_30, e6_claim_31, e6_claim_32, e6_claim_35, k_0_e, g_isC, g_in, hh, hb, cc, ck, g_ofC c k (by omega) (by omega), k_0_16, m_kill, m_cE_i, m_cE_v, m_cE_ite, m_kill, (by decide : ¬ (1 : Int32) = 0), ne_eq, if_true, if_false, not_false_eq_true]
    · simp only [e6_claim_0, e6_claim_1, e6_claim_2, e6_claim_5, e6_claim_6, e6_claim_9, e6_claim_12, e6_claim_13, e6_claim_14, e6_claim_15, e6_claim_18, e6_claim_21, e6_claim_22, e6_claim_23, e6_claim_24, e6_claim_27, e6_claim_30, e6_claim_31, e6_claim_32, e6_claim_35, k_0_e, g_isC, g_in, hh, hb, g_fails, k_x, m_kill, m_cE_i, m_cE_v, m_cE_ite, m_kill, (by decide : ¬ (1 : Int32) = 0), ne_eq, if_true, if_false, not_false_eq_true]
  · simp only [e6_claim_0, e6_claim_1, e6_claim_2, e6_claim_5, e6_claim_6, e6_claim_9, e6_claim_12, e6_claim_13, e6_claim_14, e6_claim_15, e6_claim_18, e6_claim_21, e6_claim_22, e6_claim_23, e6_claim_24, e6_claim_27, e6_claim_30, e6_claim_31, e6_claim_32, e6_claim_35, k_0_e, g_isC, hh, g_fails, k_x, m_kill, m_cE_i, m_cE_v, m_cE_ite, m_kill, ne_eq, if_true, if_false, not_false_eq_true]
def k_bp (M : m_Mem) (b k : Nat) : Int32 := match k with
  | 0 => M 16 0 0 (137 + 3 * b + 0)
  | 1 => M 16 0 0 (137 + 3 * b + 1)
  | 2 => 1000 * M 16 0 0 (137 + 3 * b + 1) / M 16 0 0 (137 + 3 * b + 0)
  | 3 => M 16 0 0 (137 + 3 * b + 2)
  | _ => k_worth M (M 16 0 0 (137 + 3 * b + 1))
theorem g_barOf (b k : Nat) (hb : b < 12) (hk : k < 5) (h0 : ¬ M 16 0 0 (137 + 3 * b + 0) = 0) : m_cl 161 [.ref (m_lc 15 0 0), .int (nI b), .int (nI k)] M = some (.inl (some (.int (k_bp M b k))), M) := by
  have hk : k = 0 ∨ k = 1 ∨ k = 2 ∨ k = 3 ∨ k = 4 := by omega
  have b0 := g_ofB b 0 hb (by decide) M
  have b1 := g_ofB b 1 hb (by decide) M
  rw [e6_barOf_en]
  rcases hk with rfl | rfl | rfl | rfl | rfl
  all_goals simp (config := { decide := true }) only [e6_barOf_0, e6_barOf_1, e6_barOf_28, e6_barOf_31, e6_barOf_32, e6_barOf_33, e6_barOf_34, e6_barOf_37, e6_barOf_38, e6_barOf_39, e6_barOf_40, e6_barOf_41, e6_barOf_44, e6_barOf_45, e6_barOf_46, e6_barOf_47, e6_barOf_48, e6_barOf_49, e6_barOf_52, e6_barOf_53, e6_barOf_54, e6_barOf_55, e6_barOf_56, e6_barOf_57, e6_barOf_60, e6_barOf_63, e6_barOf_64, e6_barOf_65, e6_barOf_66, e6_barOf_67, e6_barOf_70, b0, b1, g_ofB0 b hb, g_ofB1 b hb, g_ofB2 b hb, g_worth, h0, k_bp, m_cE_i, m_cE_v, m_cE_ite, m_kill, not_false_eq_true, if_true, if_false]
theorem f_is_has (v : Int32) (N L : Nat) (hN : N ≤ L) (hL : L < 2 ^ 31) : f_is v (nI N) = f_has v (nI N) (nI L) := by
  unfold f_is f_has
  by_cases h : 0 ≤ v ∧ v < nI N
  · rw [if_pos h, if_pos ⟨h.1, h.2, Int32.lt_of_lt_of_le h.2 (nI_le hN hL)⟩]
  · rw [if_neg h, if_neg (fun q => h ⟨q.1, q.2.1⟩)]
theorem h_bar (hJ : k_J M p N B) (hW : ∀ b, b < B → ¬ M 16 0 0 (137 + 3 * b + 0) = 0) (b k : Int32) : m_cl 162 [.ref (m_lc 15 0 0), .int b, .int k] M =
    if f_is b (M 16 0 0 5) = 0 then k_x M 1 else if f_bw k 0 4 = 0 then k_x M 2 else some (.inl (some (.int (k_bp (k_0 M) b.toNatClampNeg k.toNatClampNeg))), k_0 M) := by
  rw [e6_bar_en]
  rcases f_is_c b (M 16 0 0 5) with hh | hh
  · have hq : 0 ≤ b ∧ b < M 16 0 0 5 := by
      unfold f_is at hh
      split at hh
      · assumption
      · exact absurd hh (by decide)
    have q1 : ¬ b < 0 := Int32.not_lt.mpr hq.1
    have q2 := hq.2
    obtain ⟨b, hb, rfl⟩ := f_is1 (N := B) (by have := hJ.2.2.1; omega) (by rw [← hJ.2.2.2]; exact hh)
    have cb : (nI b).toNatClampNeg = b := nI_clamp (by have := hJ.2.2.1; omega)
    rcases f_bw_c k 0 4 with hk | hk
    · obtain ⟨k, hk5, rfl⟩ := f_bw_0n (U := 4) hk (by decide)
      have ck : (nI k).toNatClampNeg = k := nI_clamp (by omega)
      have hbo := g_barOf (M := k_0 M) b k (by have := hJ.2.2.1; omega) (by omega) (by rw [k_0_16]; exact hW b hb)
      simp only [e6_bar_0, e6_bar_1, e6_bar_2, e6_bar_5, e6_bar_6, e6_bar_9, e6_bar_10, e6_bar_11, e6_bar_14, e6_bar_15, e6_bar_16, e6_bar_19, e6_bar_20, e6_bar_21, e6_bar_24, e6_bar_25, e6_bar_26, e6_bar_27, e6_bar_28, e6_bar_31, e6_bar_34, e6_bar_35, e6_bar_36, e6_bar_37, e6_bar_40, e6_bar_43, e6_bar_44, e6_bar_45, e6_bar_48, k_0_e, g_in, k_0_16, q1, q2, hh, hk, cb, ck, hbo, m_kill, m_cE_i, m_cE_v, m_cE_ite, m_kill, (by decide : ¬ (1 : Int32) = 0), ne_eq, if_true, if_false, not_false_eq_true]
    · simp only [e6_bar_0, e6_bar_1, e6_bar_2, e6_bar_5, e6_bar_6, e6_bar_9, e6_bar_10, e6_bar_11, e6_bar_14, e6_bar_15, e6_bar_16, e6_bar_19, e6_bar_20, e6_bar_21, e6_bar_24, e6_bar_25, e6_bar_26, e6_bar_27, e6_bar_28, e6_bar_31, e6_bar_34, e6_bar_35, e6_bar_36, e6_bar_37, e6_bar_40, e6_bar_43, e6_bar_44, e6_bar_45, e6_bar_48, k_0_e, g_in, k_0_16, q1, q2, hh, hk, g_fails, k_x, m_kill, m_cE_i, m_cE_v, m_cE_ite, m_kill, (by decide : ¬ (1 : Int32) = 0), ne_eq, if_true, if_false, not_false_eq_true]
  · have hq : ¬ (0 ≤ b ∧ b < M 16 0 0 5) := by
      intro q
      unfold f_is at hh
      rw [if_pos q] at hh
      exact absurd hh (by decide)
    by_cases h1 : b < 0
    · simp only [e6_bar_0, e6_bar_1, e6_bar_2, e6_bar_5, e6_bar_6, e6_bar_9, e6_bar_10, e6_bar_11, e6_bar_14, e6_bar_15, e6_bar_16, e6_bar_19, e6_bar_20, e6_bar_21, e6_bar_24, e6_bar_25, e6_bar_26, e6_bar_27, e6_bar_28, e6_bar_31, e6_bar_34, e6_bar_35, e6_bar_36, e6_bar_37, e6_bar_40, e6_bar_43, e6_bar_44, e6_bar_45, e6_bar_48, k_0_e, k_0_16, h1, hh, g_fails, k_x, m_kill, m_cE_i, m_cE_v, m_cE_ite, m_kill, ne_eq, if_true, if_false, not_false_eq_true]
    · have h2 : ¬ b < M 16 0 0 5 := fun q => hq ⟨Int32.not_lt.mp h1, q⟩
      simp only [e6_bar_0, e6_bar_1, e6_bar_2, e6_bar_5, e6_bar_6, e6_bar_9, e6_bar_10, e6_bar_11, e6_bar_14, e6_bar_15, e6_bar_16, e6_bar_19, e6_bar_20, e6_bar_21, e6_bar_24, e6_bar_25, e6_bar_26, e6_bar_27, e6_bar_28, e6_bar_31, e6_bar_34, e6_bar_35, e6_bar_36, e6_bar_37, e6_bar_40, e6_bar_43, e6_bar_44, e6_bar_45, e6_bar_48, k_0_e, k_0_16, h1, h2, hh, g_fails, k_x, m_kill, m_cE_i, m_cE_v, m_cE_ite, m_kill, ne_eq, if_true, if_false, not_false_eq_true]
def k_tot (M : m_Mem) (k : Nat) : Nat → Int32
  | 0 => 0
  | n + 1 => k_tot M k n + M 16 0 0 (13 + 8 * n + k)
theorem g_sum_l (k : Nat) (hk : k < 8) (hN : N ≤ 8) (hc : M 16 0 0 1 = nI N) : ∀ (i n : Nat), n + i = N → m_E 163 4 [some (.ref (m_lc 15 0 0)), some (.int (nI k)), some (.int (k_tot M k n)), some (.int (nI n))] [] M = some (.inl (some (.int (k_tot M k N))), M) := by
  intro i
  induction i with
  | zero =>
    intro n hn
    have e : n = N := by omega
    subst e
    have hle : nI n ≤ nI n := nI_le (Nat.le_refl _) (by omega)
    simp only [e6_sum_4, e6_sum_5, e6_sum_6, e6_sum_9, e6_sum_10, e6_sum_11, e6_sum_14, e6_sum_15, e6_sum_16, e6_sum_17, e6_sum_18, e6_sum_21, e6_sum_22, e6_sum_23, e6_sum_26, e6_sum_29, e6_sum_30, hc, hle, if_true]
  | succ i ih =>
    intro n hn
    have hlt : n < 8 := by omega
    have hle : ¬ nI N ≤ nI n := nI_ge (by omega) (by omega)
    have ih2 := ih (n + 1) (by omega)
    rw [e6_sum_4]
    simp only [e6_sum_5, e6_sum_6, e6_sum_9, e6_sum_10, e6_sum_11, e6_sum_14, e6_sum_15, e6_sum_16, e6_sum_17, e6_sum_18, e6_sum_21, e6_sum_22, e6_sum_23, e6_sum_26, hc, hle, if_false, g_of n k hlt hk, m_cE_i, m_cE_v, m_cE_ite, m_kill, nI_1]
    exact ih2
theorem g_sum (hJ : k_J M p N B) (k : Nat) (hk : k < 8) : m_cl 163 [.ref (m_lc 15 0 0), .int (nI k)] M = some (.inl (some (.int (k_tot M k N))), M) := by
  rw [e6_sum_en]
  simp only [e6_sum_0, e6_sum_1, e6_sum_2, e6_sum_3, m_kill]
  exact g_sum_l k hk hJ.2.1.1 hJ.2.1.2 N 0 (by omega)
def k_fib (M : m_Mem) : Nat → Int32
  | 0 => M 16 0 0 3
  | n + 1 => k_fib M n + M 16 0 0 (137 + 3 * n + 1)
theorem g_fib_l (hB : B ≤ 12) (hc : M 16 0 0 5 = nI B) : ∀ (i n : Nat), n + i = B → m_E 164 9 [some (.ref (m_lc 15 0 0)), some (.int (k_fib M n)), some (.int (nI n))] [] M = some (.inl (some (.int (k_fib M B))), M) := by
  intro i
  induction i with
  | zero =>
    intro n hn
    have e : n = B := by omega
    subst e
    have hle : nI n ≤ nI n := nI_le (Nat.le_refl _) (by omega)
    simp only [e6_allFine_9, e6_allFine_10, e6_allFine_11, e6_allFine_14, e6_allFine_15, e6_allFine_16, e6_allFine_19, e6_allFine_20, e6_allFine_21, e6_allFine_22, e6_allFine_23, e6_allFine_26, e6_allFine_27, e6_allFine_28, e6_allFine_31, e6_allFine_34, e6_allFine_35, hc, hle, if_true]
  | succ i ih =>
    intro n hn
    have hlt : n < 12 := by omega
    have hle : ¬ nI B ≤ nI n := nI_ge (by omega) (by omega)
    have ih2 := ih (n + 1) (by omega)
    rw [e6_allFine_9]
    simp only [e6_allFine_10, e6_allFine_11, e6_allFine_14, e6_allFine_15, e6_allFine_16, e6_allFine_19, e6_allFine_20, e6_allFine_21, e6_allFine_22, e6_allFine_23, e6_allFine_26, e6_allFine_27, e6_allFine_28, e6_allFine_31, hc, hle, if_false, g_ofB1 n hlt, m_cE_i, m_cE_v, m_cE_ite, m_kill, nI_1]
    exact ih2
theorem g_fib (hJ : k_J M p N B) : m_cl 164 [.ref (m_lc 15 0 0)] M = some (.inl (some (.int (k_fib M B))), M) := by
  rw [e6_allFine_en]
  simp only [e6_allFine_0, e6_allFine_1, e6_allFine_4, e6_allFine_5, e6_allFine_6, e6_allFine_7, e6_allFine_8, m_kill]
  exact g_fib_l hJ.2.2.1 hJ.2.2.2 B 0 (by omega)
def k_num (M : m_Mem) (p N B k : Nat) : Int32 := match k with
  | 0 => M 16 0 0 0
  | 1 => M 16 0 0 1
  | 2 => k_tk M 10
  | 3 => M 16 0 0 2
  | 4 => M 16 0 0 3
  | 5 => M 16 0 0 5
  | 6 => M 16 0 0 6 + 50
  | 7 => M 16 0 0 7
  | 8 => k_tot M 0 N
  | 9 => k_tot M 1 N
  | 10 => k_tot M 5 N
  | 11 => k_tot M 6 N
  | 12 => k_tot M 7 N
  | 13 => k_fib M B
  | 14 => k_tot M 4 N
  | 15 => k_tot M 0 N + k_tot M 7 N - k_tot M 1 N
  | _ => nI p
theorem g_counted (hJ : k_J M p N B) (k : Nat) (hk : k < 17) : m_cl 165 [.ref (m_lc 15 0 0), .int (nI k)] M = some (.inl (some (.int (k_num M p N B k))), M) := by
  have t0 : m_cl 163 [.ref (m_lc 15 0 0), .int 0] M = some (.inl (some (.int (k_tot M 0 N))), M) := g_sum hJ 0 (by decide)
  have t1 : m_cl 163 [.ref (m_lc 15 0 0), .int 1] M = some (.inl (some (.int (k_tot M 1 N))), M) := g_sum hJ 1 (by decide)
  have t4 : m_cl 163 [.ref (m_lc 15 0 0), .int 4] M = some (.inl (some (.int (k_tot M 4 N))), M) := g_sum hJ 4 (by decide)
  have t7 : m_cl 163 [.ref (m_lc 15 0 0), .int 7] M = some (.inl (some (.int (k_tot M 7 N))), M) := g_sum hJ 7 (by decide)
  have u0 := g_sum hJ 0 (by decide)
  have u1 := g_sum hJ 1 (by decide)
  have u5 := g_sum hJ 5 (by decide)
  have u6 := g_sum hJ 6 (by decide)
  have u7 := g_sum hJ 7 (by decide)
  have x8 : nI 8 - 8 = nI 0 := by decide
  have x9 : nI 9 - 8 = nI 1 := by decide
  have x10 : nI 10 - 5 = nI 5 := by decide
  have x11 : nI 11 - 5 = nI 6 := by decide
  have x12 : nI 12 - 5 = nI 7 := by decide
  have x3 : (2 : Int32) + nI 3 - 3 = nI 2 := by decide
  have x4 : (2 : Int32) + nI 4 - 3 = nI 3 := by decide
  have hk : k = 0 ∨ k = 1 ∨ k = 2 ∨ k = 3 ∨ k = 4 ∨ k = 5 ∨ k = 6 ∨ k = 7 ∨ k = 8 ∨ k = 9 ∨ k = 10 ∨ k = 11 ∨ k = 12 ∨ k = 13 ∨ k = 14 ∨ k = 15 ∨ k = 16 := by omega
  rw [e6_counted_en]
  rcases hk with rfl | rfl | rfl | rfl | rfl | rfl | rfl | rfl | rfl | rfl | rfl | rfl | rfl | rfl | rfl | rfl | rfl
  all_goals simp (config := { decide := true }) only [e6_counted_0, e6_counted_1, e6_counted_80, e6_counted_81, e6_counted_84, e6_counted_85, e6_counted_86, e6_counted_87, e6_counted_88, e6_counted_91, e6_counted_92, e6_counted_93, e6_counted_96, e6_counted_97, e6_counted_98, e6_counted_99, e6_counted_100, e6_counted_101, e6_counted_102, e6_counted_103, e6_counted_104, e6_counted_107, e6_counted_108, e6_counted_109, e6_counted_110, e6_counted_111, e6_counted_114, e6_counted_116, e6_counted_117, e6_counted_119, e6_counted_120, e6_counted_121, e6_counted_122, e6_counted_125, e6_counted_127, e6_counted_128, e6_counted_129, e6_counted_130, e6_counted_131, e6_counted_133, e6_counted_134, e6_counted_137, e6_counted_138, e6_counted_139, e6_counted_140, e6_counted_141, e6_counted_142, e6_counted_145, e6_counted_146, e6_counted_147, e6_counted_150, e6_counted_151, e6_counted_152, e6_counted_153, e6_counted_156, e6_counted_157, e6_counted_158, e6_counted_159, e6_counted_162, e6_counted_163, e6_counted_165, e6_counted_168, e6_counted_169, e6_counted_170, e6_counted_171, e6_counted_174, e6_counted_175, e6_counted_176, e6_counted_177, e6_counted_180, t0, t1, t4, t7, u0, u1, u5, u6, u7, x3, x4, x8, x9, x10, x11, x12, g_staked, g_fib hJ, hJ.1.2, m_cE_i, m_cE_v, m_cE_ite, m_kill, if_true, if_false, k_num]
end MAPI4
