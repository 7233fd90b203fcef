/-! DAYS pass: the class's and the model's. -/
def f_dy (M : m_Mem) : m_Mem := m_set (f_en M 0 10) 7 0 0 7 (M 7 0 0 7 + 1)
def f_dn (M : m_Mem) : Nat → m_Mem
  | 0 => M
  | n + 1 => f_dy (f_dn M n)
def f_dl (M : m_Mem) : Nat → Int32
  | 0 => 0
  | n + 1 => f_dl M n + f_ln (f_dn M n) 0 10
/-- what a day's end of the class asks for -/
def f_ok (M : m_Mem) : Prop := (∀ c, c < 10 → m_nb (M 13 0 c 3) = M 13 0 c 3) ∧ (∀ c, c < 10 → M 13 0 c 1 = -1 ∨ ∃ d, d < 8 ∧ M 13 0 c 1 = nI d ∧ nI d < M 7 0 0 5)
/-- what a day's end of the model asks for -/
def k_ok (M : m_Mem) : Prop := ∀ c, c < 10 → k_pn M c 16 0 0 (77 + 6 * c + 1) < 0 ∨ ∃ d, d < 8 ∧ k_pn M c 16 0 0 (77 + 6 * c + 1) = nI d
def k_dy (M : m_Mem) : m_Mem := m_set (k_pn M 10) 16 0 0 0 (k_pn M 10 16 0 0 0 + 1)
def k_dn (M : m_Mem) : Nat → m_Mem
  | 0 => M
  | n + 1 => k_dy (k_dn M n)
def k_dl (M : m_Mem) : Nat → Int32
  | 0 => 0
  | n + 1 => k_dl M n + k_ln (k_dn M n) 10
section PASS
variable {M : m_Mem} {n p N B : Nat}
theorem a_pass_l (K : Nat) (hK : K < 2 ^ 31) (hE : ∀ i, i < K → f_ok (f_dn M i)) : ∀ (k i : Nat), i + k = K → m_E 62 49 [some (.ref (m_lc 1 0 0)), some (.int (nI K)), some (.int (f_dl M i)), some (.int (nI i))] [] (f_dn M i) = some (.inl (some (.int (f_dl M K))), f_dn M K) := by
  intro k
  induction k with
  | zero =>
    intro i hi
    have e : i = K := by omega
    subst e
    have hle : nI i ≤ nI i := nI_le (Nat.le_refl _) hK
    simp only [e5_pass_49, e5_pass_50, e5_pass_51, e5_pass_54, e5_pass_55, e5_pass_56, e5_pass_59, e5_pass_62, e5_pass_63, e5_pass_64, e5_pass_67, e5_pass_70, e5_pass_71, hle, if_true]
  | succ k ih =>
    intro i hi
    have hle : ¬ nI K ≤ nI i := nI_ge (by omega) hK
    have ho := hE i (by omega)
    have he : m_cl 22 [.ref (m_lc 7 0 0)] (f_dn M i) = some (.inl (some (.int (f_ln (f_dn M i) 0 10))), f_dn M (i + 1)) := s_end 0 (by decide) (f_dn M i) ho.1 ho.2
    rw [e5_pass_49]
    simp only [e5_pass_50, e5_pass_51, e5_pass_54, e5_pass_55, e5_pass_56, e5_pass_59, e5_pass_62, e5_pass_63, e5_pass_64, e5_pass_67, hle, m_k7, he, m_kill, m_cE_i, m_cE_v, m_cE_ite, m_kill, if_false, nI_1]
    exact ih (i + 1) (by omega)
theorem a_pass (hI : f_I M n N B) (v : Int32) (hE : f_bw v 1 30 = 1 → M 7 0 0 7 + v ≤ 9999 → ∀ i, i < v.toNatClampNeg → f_ok (f_dn (f_sv M n) i)) : m_cl 62 [.ref (m_lc 1 0 0), .int v] M =
    if f_bw v 1 30 = 0 then some (.inr "java/lang/IllegalArgumentException", M) else if M 7 0 0 7 + v ≤ 9999 then some (.inl (some (.int (f_dl (f_sv M n) v.toNatClampNeg))), f_dn (f_sv M n) v.toNatClampNeg)
    else some (.inr "java/lang/IllegalStateException", M) := by
  rw [e5_pass_en]
  rcases f_bw_c v 1 30 with hb | hb
  · obtain ⟨K, hK, rfl⟩ := nI_upto (N := 30) (Int32.le_trans (by decide : (0 : Int32) ≤ 1) (f_bw_1 hb).1) (f_bw_1 hb).2 (by decide)
    have cK : (nI K).toNatClampNeg = K := nI_clamp (by omega)
    rw [cK] at hE ⊢
    by_cases h : M 7 0 0 7 + nI K ≤ 9999
    · have L := a_pass_l (M := f_sv M n) K (by omega) (hE hb h) K 0 (by omega)
      simp only [e5_pass_0, e5_pass_1, e5_pass_2, e5_pass_4, e5_pass_7, e5_pass_10, e5_pass_20, e5_pass_21, e5_pass_24, e5_pass_25, e5_pass_28, e5_pass_31, e5_pass_41, e5_pass_42, e5_pass_45, e5_pass_46, e5_pass_47, e5_pass_48, m_k7, s_betw, hb, s_canWait 0 (by decide), h, a_save hI, m_kill, m_cE_i, m_cE_v, m_cE_ite, m_kill, (by decide : ¬ (1 : Int32) = 0), if_true, if_false, not_false_eq_true]
      exact L
    · simp only [e5_pass_0, e5_pass_1, e5_pass_2, e5_pass_4, e5_pass_7, e5_pass_10, e5_pass_20, e5_pass_21, e5_pass_24, e5_pass_25, e5_pass_28, e5_pass_31, e5_pass_41, e5_pass_42, e5_pass_45, e5_pass_46, e5_pass_47, e5_pass_48, m_k7, s_betw, hb, s_canWait 0 (by decide), h, m_kill, m_cE_i, m_cE_v, m_cE_ite, m_kill, (by decide : ¬ (1 : Int32) = 0), if_true, if_false, not_false_eq_true]
  · simp only [e5_pass_0, e5_pass_1, e5_pass_2, e5_pass_4, e5_pass_7, e5_pass_10, e5_pass_20, e5_pass_21, e5_pass_24, e5_pass_25, e5_pass_28, e5_pass_31, e5_pass_41, e5_pass_42, e5_pass_45, e5_pass_46, e5_pass_47, e5_pass_48, s_betw, hb, m_kill, m_cE_i, m_cE_v, m_cE_ite, m_kill, if_true, if_false, not_false_eq_true]
end PASS
