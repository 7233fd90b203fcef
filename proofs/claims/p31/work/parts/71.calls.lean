/-! THE CALLS that change the camp: class and model do the same. -/
section FRAMES
variable {M K : m_Mem}
theorem w_take {d c : Nat} {x y : Int32} {a b c' k : Nat} (h : b ≠ 0 ∨ a < 7 ∨ 15 ≤ a) : f_give (m_set M 12 0 d 2 x) 0 c y a b c' k = M a b c' k := by
  unfold f_give
  simp (disch := omega) only [m_set_n, m_set_i]
theorem w_st {d c : Nat} {a b c' k : Nat} (h : a ≠ 16) : k_st K d c a b c' k = K a b c' k := by
  unfold k_st
  simp (disch := omega) only [m_set_n, m_set_i]
theorem w_free {d c : Nat} {a b c' k : Nat} (h : a ≠ 16) : k_fr K d c a b c' k = K a b c' k := by
  unfold k_fr
  simp (disch := omega) only [m_set_n, m_set_i]
theorem w_wi {d c : Nat} {g : Int32} {a b c' k : Nat} (h : b ≠ 0 ∨ a < 7 ∨ 15 ≤ a) : f_wi M 0 d c g a b c' k = M a b c' k := by
  simp (disch := omega) only [f_wi, f_rc, f_ga, f_cw_o, m_set_n]
theorem w_wk {d c : Nat} {g : Int32} {a b c' k : Nat} (h : a ≠ 16) : k_wi K d c g a b c' k = K a b c' k := by
  simp (disch := omega) only [k_wi_e, k_M4, k_ad_n, m_set_n]
theorem w_sp {d : Nat} {g : Int32} {a b c' k : Nat} (h : b ≠ 0 ∨ a < 7 ∨ 15 ≤ a) : f_sp M 0 d g a b c' k = M a b c' k := by
  simp (disch := omega) only [f_sp, m_set_n]
theorem w_bu {d : Nat} {g : Int32} {a b c' k : Nat} (h : a ≠ 16) : k_bu K d g a b c' k = K a b c' k := by
  simp (disch := omega) only [k_bu, m_set_n]
theorem w_melt {d : Nat} {a b c' k : Nat} (h : b ≠ 0 ∨ a < 7 ∨ 15 ≤ a) : f_melt M 0 d a b c' k = M a b c' k := by
  simp (disch := omega) only [f_melt, m_cp_o, m_set_n]
theorem w_me {d : Nat} {a b c' k : Nat} (h : a ≠ 16) : k_me K d a b c' k = K a b c' k := by
  simp (disch := omega) only [k_me, k_mt, m_set_n]
theorem w_e1 {c : Nat} {a b c' k : Nat} (h : b ≠ 0 ∨ a < 7 ∨ 15 ≤ a) : f_e1 M 0 c a b c' k = M a b c' k := by
  unfold f_e1
  split
  · rfl
  · split
    · unfold f_give
      simp (disch := omega) only [m_set_n, m_set_i]
    · simp (disch := omega) only [m_set_n, m_set_i]
theorem w_p1 {c : Nat} {a b c' k : Nat} (h : a ≠ 16) : k_p1 K c a b c' k = K a b c' k := by
  unfold k_p1
  rw [m_set_n (by omega)]
  split
  · rfl
  · dsimp only
    split
    · simp (disch := omega) only [m_set_n, m_set_i]
    · rw [m_set_n (by omega), w_free h]
      simp (disch := omega) only [m_set_n, m_set_i]
theorem w_en {a b c' k : Nat} (h : b ≠ 0 ∨ a < 7 ∨ 15 ≤ a) : ∀ n, f_en M 0 n a b c' k = M a b c' k
  | 0 => rfl
  | n + 1 => (w_e1 h).trans (w_en h n)
theorem w_pn {a b c' k : Nat} (h : a ≠ 16) : ∀ n, k_pn K n a b c' k = K a b c' k
  | 0 => rfl
  | n + 1 => (w_p1 h).trans (w_pn h n)
theorem w_dy {a b c' k : Nat} (h : b ≠ 0 ∨ a < 7 ∨ 15 ≤ a) : f_dy M a b c' k = M a b c' k := by
  unfold f_dy
  rw [m_set_n (by omega), w_en h]
theorem w_kdy {a b c' k : Nat} (h : a ≠ 16) : k_dy K a b c' k = K a b c' k := by
  unfold k_dy
  rw [m_set_n (by omega), w_pn h]
theorem w_dn {a b c' k : Nat} (h : b ≠ 0 ∨ a < 7 ∨ 15 ≤ a) : ∀ n, f_dn M n a b c' k = M a b c' k
  | 0 => rfl
  | n + 1 => (w_dy h).trans (w_dn h n)
theorem w_kdn {a b c' k : Nat} (h : a ≠ 16) : ∀ n, k_dn K n a b c' k = K a b c' k
  | 0 => rfl
  | n + 1 => (w_kdy h).trans (w_kdn h n)
theorem w_dg {d n : Nat} {x : Int32} {a b c' k : Nat} (h : a ≠ 16) : m_set (k_dg K d n) 16 0 0 1 x a b c' k = K a b c' k := by
  rw [m_set_n (by omega)]
  induction n with
  | zero => rfl
  | succ n ih =>
    show m_set (k_dg K d n) 16 0 0 (13 + 8 * d + n) _ a b c' k = _
    rw [m_set_n (by omega)]
    exact ih
end FRAMES
section CALLS
variable {M : m_Mem} {n N B L : Nat} {f : String → Option Int32}
/-- what the model asks of diggers' claims -/
theorem z_kD {M K : m_Mem} (h : r_C M 0 (K 16 0 0) N B) : ∀ d, d < N → K 16 0 0 (13 + 8 * d + 2) < 0 ∨ ∃ c, c < 10 ∧ K 16 0 0 (13 + 8 * d + 2) = nI c ∧ K 16 0 0 (77 + 6 * c + 1) = nI d := by
  intro d hd
  have e := h.2.1.1 d hd 2 (by decide)
  rw [← e]
  rcases h.2.2.2.2.1.2 d hd with q | ⟨c, c1, c2, c3⟩
  · exact Or.inl (by rw [q]; decide)
  · exact Or.inr ⟨c, c1, c2, by rw [← (h.2.2.1 c c1).2.1]; exact c3⟩
theorem z_kD2 {M K : m_Mem} (h : r_C M 0 (K 16 0 0) N B) : ∀ d, d < N → K 16 0 0 (13 + 8 * d + 2) < 0 ∨ ∃ c, c < 10 ∧ K 16 0 0 (13 + 8 * d + 2) = nI c := fun d hd => (z_kD h d hd).imp id (fun ⟨c, c1, c2, _⟩ => ⟨c, c1, c2⟩)
theorem z_12 {M K : m_Mem} (h : r_C M 0 (K 16 0 0) N B) : ¬ K 16 0 0 12 = 0 := by
  rw [← h.1.2.2.2.2.2.2.2.2]
  intro q
  have := h.2.2.2.2.2.1.2.2.2.2.2.2.1
  rw [q] at this
  exact absurd this (by decide)
theorem f_da_sv (d : Nat) (g : Int32) : f_da (f_sv M n) 0 d g = f_da M 0 d g := by
  unfold f_da
  rw [f_sv_o M n 12 0 d 0 (by decide) (by decide) (by decide), f_sv_o M n 12 0 d 1 (by decide) (by decide) (by decide)]
end CALLS
