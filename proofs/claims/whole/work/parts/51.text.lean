/-! THE MODEL's reading of a text. -/
theorem m_set_set (M : m_Mem) (a b c k : Nat) (x y : Int32) : m_set (m_set M a b c k x) a b c k y = m_set M a b c k y := by
  funext a' b' c' k'
  rw [m_set_at, m_set_at, m_set_at]
  split
  · rfl
  · rfl
def k_at (t : Nat → Int32) (L a : Nat) (lo hi : Int32) : Int32 := if a < L then f_bw (t a) lo hi else 0
theorem k_at_c (t : Nat → Int32) (L a : Nat) (lo hi : Int32) : k_at t L a lo hi = 1 ∨ k_at t L a lo hi = 0 := by
  unfold k_at
  split
  · exact f_bw_c _ _ _
  · exact Or.inr rfl
theorem k_at_lt {t : Nat → Int32} {L a : Nat} {lo hi : Int32} (h : k_at t L a lo hi = 1) : a < L := by
  unfold k_at at h
  split at h
  · assumption
  · exact absurd h (by decide)
section TEXT
variable {M : m_Mem}
theorem g_isAt (L a : Nat) (hL : L ≤ 60) (ha : a ≤ 60) (h7 : M 15 0 0 7 = nI L) (h8 : M 15 0 0 8 = nI a) (lo hi : Int32) : m_cl 147 [.ref (m_lc 15 0 0), .int lo, .int hi] M = some (.inl (some (.int (k_at (M 20 0 0) L a lo hi))), M) := by
  rw [e6_isAt_en]
  unfold k_at
  by_cases h : a < L
  · have hle : ¬ nI L ≤ nI a := nI_ge h (by omega)
    have h60 : a < 60 := by omega
    rcases f_bw_c (M 20 0 0 a) lo hi with hb | hb
    · simp only [e6_isAt_0, e6_isAt_1, e6_isAt_4, e6_isAt_5, e6_isAt_8, e6_isAt_11, e6_isAt_12, e6_isAt_15, e6_isAt_16, e6_isAt_19, e6_isAt_20, e6_isAt_21, e6_isAt_22, e6_isAt_25, e6_isAt_28, e6_isAt_29, e6_isAt_32, e6_isAt_33, h7, h8, hle, h60, g_in, hb, h, m_cE_i, m_cE_v, m_cE_ite, m_kill, m_nok11, (by decide : ¬ (1 : Int32) = 0), ne_eq, if_true, if_false, not_false_eq_true]
    · simp only [e6_isAt_0, e6_isAt_1, e6_isAt_4, e6_isAt_5, e6_isAt_8, e6_isAt_11, e6_isAt_12, e6_isAt_15, e6_isAt_16, e6_isAt_19, e6_isAt_20, e6_isAt_21, e6_isAt_22, e6_isAt_25, e6_isAt_28, e6_isAt_29, e6_isAt_32, e6_isAt_33, h7, h8, hle, h60, g_in, hb, h, m_cE_i, m_cE_v, m_cE_ite, m_kill, m_nok10, ne_eq, if_true, if_false, not_false_eq_true]
  · have hle : nI L ≤ nI a := nI_le (by omega) (by omega)
    simp only [e6_isAt_0, e6_isAt_1, e6_isAt_4, e6_isAt_5, e6_isAt_8, e6_isAt_11, e6_isAt_12, e6_isAt_15, e6_isAt_16, e6_isAt_19, e6_isAt_20, e6_isAt_21, e6_isAt_22, e6_isAt_25, e6_isAt_28, e6_isAt_29, e6_isAt_32, e6_isAt_33, h7, h8, hle, h, m_cE_i, m_cE_v, m_cE_ite, m_kill, m_nok10, if_true, if_false, not_false_eq_true]
/-- the digits from a on: where they end, and their number -/
def k_nl (t : Nat → Int32) (L : Nat) : Nat → Nat → Int32 → Nat × Int32
  | 0, a, v => (a, v)
  | f + 1, a, v => if 10 * v + t a - 48 < 1000 ∧ k_at t L (a + 1) 48 57 = 1 then k_nl t L f (a + 1) (10 * v + t a - 48) else (a + 1, 10 * v + t a - 48)
theorem g_num_l (L : Nat) (hL : L ≤ 60) (h7 : M 15 0 0 7 = nI L) (w z : Int32) : ∀ (f a : Nat) (v : Int32), a + f = L → a < L → ∃ x, m_E 148 14 [some (.ref (m_lc 15 0 0)), some (.int w), some (.int v), some (.int z), some (.int 1)] [] (m_set M 15 0 0 8 (nI a)) = m_E 148 75 [some (.ref (m_lc 15 0 0)), some (.int w), some (.int (k_nl (M 20 0 0) L f a v).2), some (.int z), x] [] (m_set M 15 0 0 8 (nI (k_nl (M 20 0 0) L f a v).1)) := by
  intro f
  induction f with
  | zero => intro a v h1 h2; omega
  | succ f ih =>
    intro a v h1 h2
    have h60 : a < 60 := by omega
    have e7 : ∀ x, m_set M 15 0 0 8 x 15 0 0 7 = nI L := fun x => by rw [m_set_n (fun q => absurd q.2.2.2 (by decide))]; exact h7
    have e20 : ∀ x k, m_set M 15 0 0 8 x 20 0 0 k = M 20 0 0 k := fun x k => m_set_n (fun q => absurd q.1 (by decide))
    have e20f : ∀ x, m_set M 15 0 0 8 x 20 0 0 = M 20 0 0 := fun x => by funext k; exact e20 x k
    have hat := g_isAt (M := m_set M 15 0 0 8 (nI (a + 1))) L (a + 1) hL (by omega) (e7 _) m_set_i 48 57
    rw [e20f] at hat
    rw [e6_isNumber_14]
    by_cases h3 : 10 * v + M 20 0 0 a - 48 < 1000
    · have h3b : ¬ 1000 ≤ 10 * v + M 20 0 0 a - 48 := Int32.not_le.mpr h3
      rcases k_at_c (M 20 0 0) L (a + 1) 48 57 with h4 | h4
      · have hlt := k_at_lt h4
        obtain ⟨x, ih2⟩ := ih (a + 1) (10 * v + M 20 0 0 a - 48) (by omega) hlt
        have es : k_nl (M 20 0 0) L (f + 1) a v = k_nl (M 20 0 0) L f (a + 1) (10 * v + M 20 0 0 a - 48) := if_pos ⟨h3, h4⟩
        rw [es]
        refine ⟨x, ?_⟩
        rw [h4] at hat
        simp only [e6_isNumber_16, e6_isNumber_19, e6_isNumber_21, e6_isNumber_22, e6_isNumber_23, e6_isNumber_24, e6_isNumber_27, e6_isNumber_28, e6_isNumber_31, e6_isNumber_32, e6_isNumber_33, e6_isNumber_35, e6_isNumber_36, e6_isNumber_37, e6_isNumber_38, e6_isNumber_39, e6_isNumber_42, e6_isNumber_43, e6_isNumber_44, e6_isNumber_47, e6_isNumber_48, e6_isNumber_51, e6_isNumber_54, e6_isNumber_55, e6_isNumber_57, e6_isNumber_59, e6_isNumber_62, e6_isNumber_65, e6_isNumber_66, e6_isNumber_69, e6_isNumber_70, e6_isNumber_72, m_set_i, m_set_set, e20, h60, h3, h3b, hat, nI_1, m_kill, m_cE_i, m_cE_v, m_cE_ite, m_kill, (by decide : ¬ (1 : Int32) = 0), ne_eq, if_true, if_false, not_false_eq_true]
        exact ih2
      · have es : k_nl (M 20 0 0) L (f + 1) a v = (a + 1, 10 * v + M 20 0 0 a - 48) := if_neg (fun q => by rw [h4] at q; exact absurd q.2 (by decide))
        rw [es]
        refine ⟨some (.int 0), ?_⟩
        rw [h4] at hat
        simp only [e6_isNumber_16, e6_isNumber_19, e6_isNumber_21, e6_isNumber_22, e6_isNumber_23, e6_isNumber_24, e6_isNumber_27, e6_isNumber_28, e6_isNumber_31, e6_isNumber_32, e6_isNumber_33, e6_isNumber_35, e6_isNumber_36, e6_isNumber_37, e6_isNumber_38, e6_isNumber_39, e6_isNumber_42, e6_isNumber_43, e6_isNumber_44, e6_isNumber_47, e6_isNumber_48, e6_isNumber_51, e6_isNumber_54, e6_isNumber_55, e6_isNumber_57, e6_isNumber_59, e6_isNumber_62, e6_isNumber_65, e6_isNumber_66, e6_isNumber_69, e6_isNumber_70, e6_isNumber_72, m_set_i, m_set_set, e20, h60, h3, h3b, hat, nI_1, m_kill, m_cE_i, m_cE_v, m_cE_ite, m_kill, (by decide : ¬ (1 : Int32) = 0), ne_eq, if_true, if_false, not_false_eq_true]
        rw [e6_isNumber_14]
        simp only [e6_isNumber_16, ne_eq, if_true, if_false, not_false_eq_true]
    · have h3b : 1000 ≤ 10 * v + M 20 0 0 a - 48 := Int32.not_lt.mp h3
      have es : k_nl (M 20 0 0) L (f + 1) a v = (a + 1, 10 * v + M 20 0 0 a - 48) := if_neg (fun q => h3 q.1)
      rw [es]
      refine ⟨some (.int 0), ?_⟩
      simp only [e6_isNumber_16, e6_isNumber_19, e6_isNumber_21, e6_isNumber_22, e6_isNumber_23, e6_isNumber_24, e6_isNumber_27, e6_isNumber_28, e6_isNumber_31, e6_isNumber_32, e6_isNumber_33, e6_isNumber_35, e6_isNumber_36, e6_isNumber_37, e6_isNumber_38, e6_isNumber_39, e6_isNumber_42, e6_isNumber_43, e6_isNumber_44, e6_isNumber_47, e6_isNumber_48, e6_isNumber_51, e6_isNumber_54, e6_isNumber_55, e6_isNumber_57, e6_isNumber_59, e6_isNumber_62, e6_isNumber_65, e6_isNumber_66, e6_isNumber_69, e6_isNumber_70, e6_isNumber_72, m_set_i, m_set_set, e20, h60, h3, h3b, nI_1, m_kill, m_cE_i, m_cE_v, m_cE_ite, m_kill, (by decide : ¬ (1 : Int32) = 0), ne_eq, if_true, if_false, not_false_eq_true]
      rw [e6_isNumber_14]
      simp only [e6_isNumber_16, ne_eq, if_true, if_false, not_false_eq_true]
theorem k_nl_ge (t : Nat → Int32) (L : Nat) : ∀ (f a : Nat) (v : Int32), a + f = L → a < L → a < (k_nl t L f a v).1 ∧ (k_nl t L f a v).1 ≤ L := by
  intro f
  induction f with
  | zero => intro a v h1 h2; omega
  | succ f ih =>
    intro a v h1 h2
    unfold k_nl
    split
    · rename_i q
      have hlt := k_at_lt q.2
      have := ih (a + 1) (10 * v + t a - 48) (by omega) hlt
      omega
    · exact ⟨by show a < a + 1; omega, by show a + 1 ≤ L; omega⟩
/-- a number from a on: does it begin, where does it end, what is it -/
def k_nu (t : Nat → Int32) (L a : Nat) : Nat × Int32 := if k_at t L a 49 57 = 1 then k_nl t L (L - a) a 0 else (a, 0)
theorem g_num (L a b : Nat) (hL : L ≤ 60) (ha : a ≤ L) (hb : b + 2 < 93) (h7 : M 15 0 0 7 = nI L) (h8 : M 15 0 0 8 = nI a) : m_cl 148 [.ref (m_lc 15 0 0), .int (nI b)] M =
    some (.inl (some (.int (k_at (M 20 0 0) L a 49 57))), m_set (m_set M 15 0 0 8 (nI (k_nu (M 20 0 0) L a).1)) 21 0 0 (b + 2) (k_nu (M 20 0 0) L a).2) := by
  have hat := g_isAt L a hL (by omega) h7 h8 49 57
  have hix : nI b + 2 = nI (b + 2) := nI_add b 2
  have e88 : m_set M 15 0 0 8 (nI a) = M := by
    funext a' b' c' k'
    rw [m_set_at]
    split
    · rename_i q
      obtain ⟨rfl, rfl, rfl, rfl⟩ := q
      exact h8.symm
    · rfl
  rw [e6_isNumber_en]
  unfold k_nu
  rcases k_at_c (M 20 0 0) L a 49 57 with h | h
  · have hlt := k_at_lt h
    obtain ⟨x, L1⟩ := g_num_l (M := M) L hL h7 (nI b) 1 (L - a) a 0 (by omega) hlt
    rw [e88] at L1
    rw [h] at hat ⊢
    rw [if_pos rfl]
    simp only [e6_isNumber_0, e6_isNumber_1, e6_isNumber_2, e6_isNumber_3, e6_isNumber_5, e6_isNumber_7, e6_isNumber_10, e6_isNumber_11, e6_isNumber_12, hat, m_kill, m_cE_i, m_cE_v, m_cE_ite, m_kill]
    refine Eq.trans L1 ?_
    simp only [e6_isNumber_75, e6_isNumber_76, e6_isNumber_79, e6_isNumber_80, e6_isNumber_81, e6_isNumber_82, e6_isNumber_83, e6_isNumber_84, e6_isNumber_85, hix, hb, m_nok11]
  · rw [h] at hat ⊢
    rw [if_neg (by decide), e88]
    simp only [e6_isNumber_0, e6_isNumber_1, e6_isNumber_2, e6_isNumber_3, e6_isNumber_5, e6_isNumber_7, e6_isNumber_10, e6_isNumber_11, e6_isNumber_12, hat, m_kill, m_cE_i, m_cE_v, m_cE_ite, m_kill]
    rw [e6_isNumber_14]
    simp only [e6_isNumber_16, ne_eq, if_true, if_false, not_false_eq_true]
    simp only [e6_isNumber_75, e6_isNumber_76, e6_isNumber_79, e6_isNumber_80, e6_isNumber_81, e6_isNumber_82, e6_isNumber_83, e6_isNumber_84, e6_isNumber_85, hix, hb, m_nok10]
end TEXT
