/-! THE MODEL: what is asked of it, on. -/
section MAPI5
variable {M : m_Mem} {p N B : Nat}
theorem h_count (hJ : k_J M p N B) (k : Int32) : m_cl 166 [.ref (m_lc 15 0 0), .int k] M =
    if f_bw k 0 16 = 0 then k_x M 1 else some (.inl (some (.int (k_num (k_0 M) p N B k.toNatClampNeg))), k_0 M) := by
  rw [e6_count_en]
  rcases f_bw_c k 0 16 with hb | hb
  · obtain ⟨k, hk, rfl⟩ := f_bw_0n (U := 16) hb (by decide)
    have ck : (nI k).toNatClampNeg = k := nI_clamp (by omega)
    simp only [e6_count_0, e6_count_1, e6_count_2, e6_count_5, e6_count_6, e6_count_7, e6_count_9, e6_count_12, e6_count_15, e6_count_16, e6_count_17, e6_count_20, e6_count_23, e6_count_24, e6_count_25, e6_count_28, k_0_e, g_in, hb, ck, g_counted (k_J_0 hJ) k (by omega), m_kill, m_cE_i, m_cE_v, m_cE_ite, m_kill, (by decide : ¬ (1 : Int32) = 0), ne_eq, if_true, if_false, not_false_eq_true]
  · simp only [e6_count_0, e6_count_1, e6_count_2, e6_count_5, e6_count_6, e6_count_7, e6_count_9, e6_count_12, e6_count_15, e6_count_16, e6_count_17, e6_count_20, e6_count_23, e6_count_24, e6_count_25, e6_count_28, k_0_e, g_in, hb, g_fails, k_x, m_kill, m_cE_i, m_cE_v, m_cE_ite, m_kill, ne_eq, if_true, if_false, not_false_eq_true]
theorem h_setting (t : Int32) : m_cl 167 [.ref (m_lc 15 0 0), .int t] M =
    if f_bw t 0 4 = 0 then k_x M 1 else some (.inl (some (.int (M 16 0 0 (8 + t.toNatClampNeg)))), k_0 M) := by
  rw [e6_setting_en]
  rcases f_bw_c t 0 4 with hb | hb
  · obtain ⟨t, ht, rfl⟩ := f_bw_0n (U := 4) hb (by decide)
    have ct : (nI t).toNatClampNeg = t := nI_clamp (by omega)
    have hix : 8 + t < 173 := by omega
    simp only [e6_setting_0, e6_setting_1, e6_setting_2, e6_setting_5, e6_setting_6, e6_setting_7, e6_setting_8, e6_setting_11, e6_setting_14, e6_setting_15, e6_setting_18, e6_setting_20, e6_setting_21, e6_setting_22, e6_setting_23, e6_setting_26, e6_setting_27, e6_setting_28, e6_setting_31, k_0_e, g_in, hb, ct, g_a8, hix, k_0_16, m_kill, m_cE_i, m_cE_v, m_cE_ite, m_kill, (by decide : ¬ (1 : Int32) = 0), ne_eq, if_true, if_false, not_false_eq_true]
  · simp only [e6_setting_0, e6_setting_1, e6_setting_2, e6_setting_5, e6_setting_6, e6_setting_7, e6_setting_8, e6_setting_11, e6_setting_14, e6_setting_15, e6_setting_18, e6_setting_20, e6_setting_21, e6_setting_22, e6_setting_23, e6_setting_26, e6_setting_27, e6_setting_28, e6_setting_31, k_0_e, g_in, hb, g_fails, k_x, m_kill, m_cE_i, m_cE_v, m_cE_ite, m_kill, ne_eq, if_true, if_false, not_false_eq_true]
def k_iw (M : m_Mem) (g : Int32) (k : Nat) : Int32 := match k with
  | 0 => k_price M g (M 16 0 0 8) - k_fee M (k_price M g (M 16 0 0 8))
  | 1 => k_fee M (k_price M g (M 16 0 0 8))
  | _ => k_told M g
theorem g_weighed (g : Int32) (k : Nat) (hk : k < 3) : m_cl 168 [.ref (m_lc 15 0 0), .int g, .int (nI k)] M = some (.inl (some (.int (k_iw M g k))), M) := by
  rw [e6_weighed_en]
  have hk3 : k = 0 ∨ k = 1 ∨ k = 2 := by omega
  rcases hk3 with rfl | rfl | rfl
  all_goals simp (config := { decide := true }) only [e6_weighed_0, e6_weighed_1, e6_weighed_2, e6_weighed_3, e6_weighed_6, e6_weighed_8, e6_weighed_9, e6_weighed_12, e6_weighed_13, e6_weighed_14, e6_weighed_17, e6_weighed_18, e6_weighed_19, e6_weighed_20, e6_weighed_23, e6_weighed_24, e6_weighed_27, e6_weighed_28, e6_weighed_29, e6_weighed_32, e6_weighed_33, e6_weighed_34, e6_weighed_37, e6_weighed_40, e6_weighed_41, e6_weighed_42, e6_weighed_45, g_price, g_fee, g_told, k_iw, m_cE_i, m_cE_v, m_cE_ite, m_kill, if_true, if_false]
theorem h_ifWeighed (g k : Int32) : m_cl 169 [.ref (m_lc 15 0 0), .int g, .int k] M =
    if f_bw g 1 9999 = 0 then k_x M 1 else if f_bw k 0 2 = 0 then k_x M 1 else some (.inl (some (.int (k_iw (k_0 M) g k.toNatClampNeg))), k_0 M) := by
  rw [e6_ifWeighed_en]
  rcases f_bw_c g 1 9999 with hh | hh
  · rcases f_bw_c k 0 2 with hb | hb
    · obtain ⟨k, hk, rfl⟩ := f_bw_0n (U := 2) hb (by decide)
      have ck : (nI k).toNatClampNeg = k := nI_clamp (by omega)
      simp only [e6_ifWeighed_0, e6_ifWeighed_1, e6_ifWeighed_2, e6_ifWeighed_5, e6_ifWeighed_6, e6_ifWeighed_7, e6_ifWeighed_10, e6_ifWeighed_13, e6_ifWeighed_16, e6_ifWeighed_17, e6_ifWeighed_18, e6_ifWeighed_19, e6_ifWeighed_22, e6_ifWeighed_25, e6_ifWeighed_26, e6_ifWeighed_27, e6_ifWeighed_28, e6_ifWeighed_31, e6_ifWeighed_34, e6_ifWeighed_35, e6_ifWeighed_36, e6_ifWeighed_39, k_0_e, g_in, hh, hb, ck, g_weighed g k (by omega), m_kill, m_cE_i, m_cE_v, m_cE_ite, m_kill, (by decide : ¬ (1 : Int32) = 0), ne_eq, if_true, if_false, not_false_eq_true]
    · simp only [e6_ifWeighed_0, e6_ifWeighed_1, e6_ifWeighed_2, e6_ifWeighed_5, e6_ifWeighed_6, e6_ifWeighed_7, e6_ifWeighed_10, e6_ifWeighed_13, e6_ifWeighed_16, e6_ifWeighed_17, e6_ifWeighed_18, e6_ifWeighed_19, e6_ifWeighed_22, e6_ifWeighed_25, e6_ifWeighed_26, e6_ifWeighed_27, e6_ifWeighed_28, e6_ifWeighed_31, e6_ifWeighed_34, e6_ifWeighed_35, e6_ifWeighed_36, e6_ifWeighed_39, k_0_e, g_in, hh, hb, g_fails, k_x, m_kill, m_cE_i, m_cE_v, m_cE_ite, m_kill, (by decide : ¬ (1 : Int32) = 0), ne_eq, if_true, if_false, not_false_eq_true]
  · simp only [e6_ifWeighed_0, e6_ifWeighed_1, e6_ifWeighed_2, e6_ifWeighed_5, e6_ifWeighed_6, e6_ifWeighed_7, e6_ifWeighed_10, e6_ifWeighed_13, e6_ifWeighed_16, e6_ifWeighed_17, e6_ifWeighed_18, e6_ifWeighed_19, e6_ifWeighed_22, e6_ifWeighed_25, e6_ifWeighed_26, e6_ifWeighed_27, e6_ifWeighed_28, e6_ifWeighed_31, e6_ifWeighed_34, e6_ifWeighed_35, e6_ifWeighed_36, e6_ifWeighed_39, k_0_e, g_in, hh, g_fails, k_x, m_kill, m_cE_i, m_cE_v, m_cE_ite, m_kill, ne_eq, if_true, if_false, not_false_eq_true]
/-- the first of i, i + 1, .., i + k - 1 grains that pays c -/
def k_fe (M : m_Mem) (c : Int32) : Nat → Nat → Int32
  | 0, _ => -1
  | k + 1, i => if k_pays M (nI i) < c then k_fe M c k (i + 1) else nI i
theorem g_few_l (c : Int32) : ∀ (k i : Nat), i + k = 10000 → m_E 170 2 [some (.ref (m_lc 15 0 0)), some (.int c), some (.int (nI i))] [] M = some (.inl (some (.int (k_fe M c k i))), M) := by
  intro k
  induction k with
  | zero =>
    intro i hi
    have e : i = 10000 := by omega
    subst e
    simp only [e6_fewest_2, e6_fewest_3, e6_fewest_6, e6_fewest_9, e6_fewest_10, e6_fewest_11, e6_fewest_14, e6_fewest_15, e6_fewest_18, e6_fewest_19, e6_fewest_20, e6_fewest_23, e6_fewest_26, e6_fewest_27, (by decide : (9999 : Int32) < nI 10000), k_fe, if_true]
  | succ k ih =>
    intro i hi
    have hle : ¬ (9999 : Int32) < nI i := Int32.not_lt.mpr (nI_le (b := 9999) (by omega) (by decide))
    have ih2 := ih (i + 1) (by omega)
    rw [e6_fewest_2]
    by_cases h : k_pays M (nI i) < c
    · have h2 : ¬ c ≤ k_pays M (nI i) := Int32.not_le.mpr h
      simp only [e6_fewest_3, e6_fewest_6, e6_fewest_9, e6_fewest_10, e6_fewest_11, e6_fewest_14, e6_fewest_15, e6_fewest_18, e6_fewest_19, e6_fewest_20, e6_fewest_23, hle, g_pays, h, m_cE_i, m_cE_v, m_cE_ite, m_kill, if_false, if_true, nI_1, k_fe]
      exact ih2
    · simp only [e6_fewest_3, e6_fewest_6, e6_fewest_9, e6_fewest_10, e6_fewest_11, e6_fewest_14, e6_fewest_15, e6_fewest_18, e6_fewest_19, e6_fewest_20, e6_fewest_23, hle, g_pays, h, m_cE_i, m_cE_v, m_cE_ite, m_kill, if_false, k_fe]
theorem g_few (c : Int32) : m_cl 170 [.ref (m_lc 15 0 0), .int c] M = some (.inl (some (.int (k_fe M c 9999 1))), M) := by
  rw [e6_fewest_en]
  simp only [e6_fewest_0, e6_fewest_1, m_kill]
  exact g_few_l c 9999 1 rfl
theorem h_grainsFor (c : Int32) : m_cl 171 [.ref (m_lc 15 0 0), .int c] M =
    if f_bw c 1 9999 = 0 then k_x M 1 else some (.inl (some (.int (k_fe (k_0 M) c 9999 1))), k_0 M) := by
  rw [e6_grainsFor_en]
  rcases f_bw_c c 1 9999 with hb | hb
  · simp only [e6_grainsFor_0, e6_grainsFor_1, e6_grainsFor_2, e6_grainsFor_5, e6_grainsFor_6, e6_grainsFor_7, e6_grainsFor_10, e6_grainsFor_13, e6_grainsFor_16, e6_grainsFor_17, e6_grainsFor_18, e6_grainsFor_21, e6_grainsFor_24, e6_grainsFor_25, e6_grainsFor_26, e6_grainsFor_29, k_0_e, g_in, hb, g_few, m_kill, m_cE_i, m_cE_v, m_cE_ite, m_kill, (by decide : ¬ (1 : Int32) = 0), ne_eq, if_true, if_false, not_false_eq_true]
  · simp only [e6_grainsFor_0, e6_grainsFor_1, e6_grainsFor_2, e6_grainsFor_5, e6_grainsFor_6, e6_grainsFor_7, e6_grainsFor_10, e6_grainsFor_13, e6_grainsFor_16, e6_grainsFor_17, e6_grainsFor_18, e6_grainsFor_21, e6_grainsFor_24, e6_grainsFor_25, e6_grainsFor_26, e6_grainsFor_29, k_0_e, g_in, hb, g_fails, k_x, m_kill, m_cE_i, m_cE_v, m_cE_ite, m_kill, ne_eq, if_true, if_false, not_false_eq_true]
/-- the worst among the first n -/
def k_wo (M : m_Mem) : Nat → Option Nat
  | 0 => none
  | n + 1 => match k_wo M n with
    | none => if 0 < k_lost M n then some n else none
    | some w => if k_lost M w < k_lost M n then some n else some w
def k_wi1 : Option Nat → Int32
  | none => -1
  | some w => nI w
theorem k_wo_lt (M : m_Mem) : ∀ n w, k_wo M n = some w → w < n
  | 0, w, h => by cases h
  | n + 1, w, h => by
    unfold k_wo at h
    split at h
    · split at h
      · cases h; omega
      · cases h
    · rename_i v hv
      have := k_wo_lt M n v hv
      split at h <;> (cases h; omega)
theorem g_wo_l (hN : N ≤ 8) (hc : M 16 0 0 1 = nI N) : ∀ (i n : Nat), n + i = N → m_E 172 4 [some (.ref (m_lc 15 0 0)), some (.int (k_wi1 (k_wo M n))), some (.int (nI n))] [] M = some (.inl (some (.int (k_wi1 (k_wo M N)))), M) := by
  intro i
  induction i with
  | zero =>
    intro n hn
    have e : n = N := by omega
    subst e
    have hle : nI n ≤ nI n := nI_le (Nat.le_refl _) (by omega)
    simp only [e6_worstOne_4, e6_worstOne_5, e6_worstOne_6, e6_worstOne_9, e6_worstOne_10, e6_worstOne_11, e6_worstOne_14, e6_worstOne_15, e6_worstOne_16, e6_worstOne_19, e6_worstOne_20, e6_worstOne_23, e6_worstOne_24, e6_worstOne_27, e6_worstOne_28, e6_worstOne_29, e6_worstOne_32, e6_worstOne_35, e6_worstOne_36, e6_worstOne_39, e6_worstOne_40, e6_worstOne_41, e6_worstOne_44, e6_worstOne_47, e6_worstOne_48, hc, hle, if_true]
  | succ i ih =>
    intro n hn
    have hlt : n < 8 := by omega
    have hle : ¬ nI N ≤ nI n := nI_ge (by omega) (by omega)
    have ih2 := ih (n + 1) (by omega)
    have es : k_wo M (n + 1) = match k_wo M n with
      | none => if 0 < k_lost M n then some n else none
      | some w => if k_lost M w < k_lost M n then some n else some w := rfl
    rw [es] at ih2
    have hw := k_wo_lt M n
    clear ih es
    rw [e6_worstOne_4]
    generalize k_wo M n = o at ih2 hw ⊢
    cases o with
    | none =>
      dsimp only at ih2
      have h1 : ¬ (0 : Int32) ≤ k_wi1 none := by decide
      by_cases h : 0 < k_lost M n
      · have h2 : ¬ k_lost M n ≤ 0 := Int32.not_le.mpr h
        rw [if_pos h] at ih2
        simp only [e6_worstOne_5, e6_worstOne_6, e6_worstOne_9, e6_worstOne_10, e6_worstOne_11, e6_worstOne_14, e6_worstOne_15, e6_worstOne_16, e6_worstOne_19, e6_worstOne_20, e6_worstOne_23, e6_worstOne_24, e6_worstOne_27, e6_worstOne_28, e6_worstOne_29, e6_worstOne_32, e6_worstOne_35, e6_worstOne_36, e6_worstOne_39, e6_worstOne_40, e6_worstOne_41, e6_worstOne_44, hc, hle, g_lost n hlt, h1, h, h2, m_kill, m_cE_i, m_cE_v, m_cE_ite, m_kill, if_false, nI_1]
        exact ih2
      · have h2 : k_lost M n ≤ 0 := Int32.not_lt.mp h
        rw [if_neg h] at ih2
        simp only [e6_worstOne_5, e6_worstOne_6, e6_worstOne_9, e6_worstOne_10, e6_worstOne_11, e6_worstOne_14, e6_worstOne_15, e6_worstOne_16, e6_worstOne_19, e6_worstOne_20, e6_worstOne_23, e6_worstOne_24, e6_worstOne_27, e6_worstOne_28, e6_worstOne_29, e6_worstOne_32, e6_worstOne_35, e6_worstOne_36, e6_worstOne_39, e6_worstOne_40, e6_worstOne_41, e6_worstOne_44, hc, hle, g_lost n hlt, h1, h, h2, m_kill, m_cE_i, m_cE_v, m_cE_ite, m_kill, if_false, if_true, nI_1]
        exact ih2
    | some w =>
      dsimp only at ih2
      have hwn := hw w rfl
      have ew : k_wi1 (some w) = nI w := rfl
      have h1 : (0 : Int32) ≤ nI w := nI_pos' (by omega)
      by_cases h : k_lost M w < k_lost M n
      · have h2 : ¬ k_lost M n ≤ k_lost M w := Int32.not_le.mpr h
        rw [if_pos h] at ih2
        simp only [e6_worstOne_5, e6_worstOne_6, e6_worstOne_9, e6_worstOne_10, e6_worstOne_11, e6_worstOne_14, e6_worstOne_15, e6_worstOne_16, e6_worstOne_19, e6_worstOne_20, e6_worstOne_23, e6_worstOne_24, e6_worstOne_27, e6_worstOne_28, e6_worstOne_29, e6_worstOne_32, e6_worstOne_35, e6_worstOne_36, e6_worstOne_39, e6_worstOne_40, e6_worstOne_41, e6_worstOne_44, hc, hle, g_lost n hlt, g_lost w (show w < 8 by omega), ew, h1, h, h2, m_kill, m_cE_i, m_cE_v, m_cE_ite, m_kill, if_false, if_true, nI_1]
        exact ih2
      · have h2 : k_lost M n ≤ k_lost M w := Int32.not_lt.mp h
        rw [if_neg h] at ih2
        simp only [e6_worstOne_5, e6_worstOne_6, e6_worstOne_9, e6_worstOne_10, e6_worstOne_11, e6_worstOne_14, e6_worstOne_15, e6_worstOne_16, e6_worstOne_19, e6_worstOne_20, e6_worstOne_23, e6_worstOne_24, e6_worstOne_27, e6_worstOne_28, e6_worstOne_29, e6_worstOne_32, e6_worstOne_35, e6_worstOne_36, e6_worstOne_39, e6_worstOne_40, e6_worstOne_41, e6_worstOne_44, hc, hle, g_lost n hlt, g_lost w (show w < 8 by omega), ew, h1, h, h2, m_kill, m_cE_i, m_cE_v, m_cE_ite, m_kill, if_false, if_true, nI_1]
        exact ih2
theorem g_wo (hJ : k_J M p N B) : m_cl 172 [.ref (m_lc 15 0 0)] M = some (.inl (some (.int (k_wi1 (k_wo M N)))), M) := by
  rw [e6_worstOne_en]
  simp only [e6_worstOne_0, e6_worstOne_1, e6_worstOne_2, e6_worstOne_3, m_kill]
  exact g_wo_l hJ.2.1.1 hJ.2.1.2 N 0 (by omega)
theorem h_worst (hJ : k_J M p N B) : m_cl 173 [.ref (m_lc 15 0 0)] M = some (.inl (some (.int (k_wi1 (k_wo (k_0 M) N)))), k_0 M) := by
  rw [e6_worst_en]
  simp only [e6_worst_0, e6_worst_1, e6_worst_2, e6_worst_5, e6_worst_6, e6_worst_9, k_0_e, g_wo (k_J_0 hJ), m_kill, m_cE_i, m_cE_v, m_cE_ite, m_kill]
theorem g_share (hJ : k_J M p N B) (hn : ¬ k_tot M 3 N = 0 → FP.ddiv (FP.i2d (k_tot M 4 N)) (FP.i2d (k_tot M 3 N)) &&& 0x7fffffffffffffff ≤ 0x7ff0000000000000) : m_cl 176 [.ref (m_lc 15 0 0)] M =
    some (.inl (some (.double (if k_tot M 3 N = 0 then FP.dconst0 else FP.ddiv (FP.i2d (k_tot M 4 N)) (FP.i2d (k_tot M 3 N))))), M) := by
  have t3 : m_cl 163 [.ref (m_lc 15 0 0), .int 3] M = some (.inl (some (.int (k_tot M 3 N))), M) := g_sum hJ 3 (by decide)
  have t4 : m_cl 163 [.ref (m_lc 15 0 0), .int 4] M = some (.inl (some (.int (k_tot M 4 N))), M) := g_sum hJ 4 (by decide)
  rw [e6_share_en]
  by_cases h : k_tot M 3 N = 0
  · simp only [e6_share_0, e6_share_1, e6_share_2, e6_share_5, e6_share_6, e6_share_7, e6_share_10, e6_share_11, e6_share_14, e6_share_15, e6_share_16, e6_share_19, e6_share_20, e6_share_21, e6_share_22, e6_share_23, t3, h, m_kill, m_cE_i, m_cE_v, m_cE_ite, m_kill, ne_eq, not_true_eq_false, if_true, if_false, not_false_eq_true]
  · simp only [e6_share_0, e6_share_1, e6_share_2, e6_share_5, e6_share_6, e6_share_7, e6_share_10, e6_share_11, e6_share_14, e6_share_15, e6_share_16, e6_share_19, e6_share_20, e6_share_21, e6_share_22, e6_share_23, t3, t4, h, hn h, m_kill, m_cE_i, m_cE_v, m_cE_ite, m_kill, ne_eq, if_true, if_false, not_false_eq_true]
theorem h_share (hJ : k_J M p N B) (hn : ¬ k_tot (k_0 M) 3 N = 0 → FP.ddiv (FP.i2d (k_tot (k_0 M) 4 N)) (FP.i2d (k_tot (k_0 M) 3 N)) &&& 0x7fffffffffffffff ≤ 0x7ff0000000000000) : m_cl 177 [.ref (m_lc 15 0 0)] M =
    some (.inl (some (.double (if k_tot (k_0 M) 3 N = 0 then FP.dconst0 else FP.ddiv (FP.i2d (k_tot (k_0 M) 4 N)) (FP.i2d (k_tot (k_0 M) 3 N))))), k_0 M) := by
  rw [e6_fineShare_en]
  simp only [e6_fineShare_0, e6_fineShare_1, e6_fineShare_2, e6_fineShare_5, e6_fineShare_6, e6_fineShare_9, k_0_e, g_share (k_J_0 hJ) hn, m_kill, m_cE_i, m_cE_v, m_cE_ite, m_kill]
end MAPI5
