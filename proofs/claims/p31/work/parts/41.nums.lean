/-! NUMBERS; the law's four arrays as one row of numbers. -/
theorem nI_quo {a b : Nat} (ha : a < 2 ^ 31) (hb : b < 2 ^ 31) (h0 : 0 < b) : nI a / nI b = nI (a / b) := by
  have hq : a / b < 2 ^ 31 := Nat.lt_of_le_of_lt (Nat.div_le_self a b) ha
  refine Int32.toInt_inj.mp ?_
  rw [Int32.toInt_div_of_ne_right _ _ (fun q => by
    have := nI_toInt hb
    rw [q] at this
    have e : (-1 : Int32).toInt = -1 := by decide
    omega), nI_toInt ha, nI_toInt hb, nI_toInt hq, Int.tdiv_eq_ediv_of_nonneg (by omega)]
  exact (Int.natCast_ediv a b).symm
theorem nI_subs {a b : Nat} (h : b ≤ a) : nI a - nI b = nI (a - b) := by
  obtain ⟨c, rfl⟩ := Nat.exists_eq_add_of_le h
  rw [Nat.add_sub_cancel_left, ← nI_add, Int32.add_comm, Int32.add_sub_cancel]
theorem nI_remd {a b : Nat} (ha : a < 2 ^ 31) (hb : b < 2 ^ 31) (h0 : 0 < b) : nI a - nI a / nI b * nI b = nI (a % b) := by
  rw [nI_quo ha hb h0, nI_mul, nI_subs (Nat.div_mul_le_self a b)]
  congr 1
  have := Nat.div_add_mod a b
  rw [Nat.mul_comm] at this
  omega
-- an index and a written number
theorem i_p2 (n : Nat) : nI n + 2 = nI (n + 2) := nI_add n 2
theorem i_p3 (n : Nat) : nI n + 3 = nI (n + 3) := nI_add n 3
theorem i_p4 (n : Nat) : nI n + 4 = nI (n + 4) := nI_add n 4
theorem i_p5 (n : Nat) : nI n + 5 = nI (n + 5) := nI_add n 5
theorem i_p6 (n : Nat) : nI n + 6 = nI (n + 6) := nI_add n 6
theorem i_p7 (n : Nat) : nI n + 7 = nI (n + 7) := nI_add n 7
theorem m_ss {M : m_Mem} {a b c k : Nat} {x y : Int32} : m_set (m_set M a b c k x) a b c k y = m_set M a b c k y := by
  funext a' b' c' k'
  rw [m_set_at, m_set_at, m_set_at]
  split <;> rfl
theorem m_sc {M : m_Mem} {a b c k a2 b2 c2 k2 : Nat} {x y : Int32} (h : ¬ (a = a2 ∧ b = b2 ∧ c = c2 ∧ k = k2)) : m_set (m_set M a b c k x) a2 b2 c2 k2 y = m_set (m_set M a2 b2 c2 k2 y) a b c k x := by
  funext a' b' c' k'
  rw [m_set_at, m_set_at, m_set_at, m_set_at]
  by_cases h1 : a' = a2 ∧ b' = b2 ∧ c' = c2 ∧ k' = k2
  · obtain ⟨rfl, rfl, rfl, rfl⟩ := h1
    rw [if_pos ⟨rfl, rfl, rfl, rfl⟩, if_neg (fun q => h ⟨q.1.symm, q.2.1.symm, q.2.2.1.symm, q.2.2.2.symm⟩), if_pos ⟨rfl, rfl, rfl, rfl⟩]
  · rw [if_neg h1, if_neg h1]
theorem m_se {M : m_Mem} {a b c k : Nat} : m_set M a b c k (M a b c k) = M := by
  funext a' b' c' k'
  rw [m_set_at]
  split
  · rename_i h
    obtain ⟨rfl, rfl, rfl, rfl⟩ := h
    rfl
  · rfl
/-- the law's arrays g, d, c, b as one row of 173 numbers -/
def y_S (M : m_Mem) (k : Nat) : Int32 := if k < 13 then M 16 0 0 k else if k < 77 then M 17 0 0 (k - 13) else if k < 137 then M 18 0 0 (k - 77) else M 19 0 0 (k - 137)
def y_K (M : m_Mem) : m_Mem := fun a b c k => if a = 16 ∧ b = 0 ∧ c = 0 then y_S M k else 0
theorem y_K_o {M : m_Mem} {a b c k : Nat} (h : a ≠ 16) : y_K M a b c k = 0 := if_neg (fun q => h q.1)
theorem y_at {M : m_Mem} {k : Nat} : y_K M 16 0 0 k = y_S M k := if_pos ⟨rfl, rfl, rfl⟩
section ROW
variable {M : m_Mem} {v : Int32}
theorem y_16 {k : Nat} (h : k < 13) : y_K M 16 0 0 k = M 16 0 0 k := y_at.trans (if_pos h)
theorem y_17 {d k : Nat} (hd : d < 8) (hk : k < 8) : y_K M 16 0 0 (13 + 8 * d + k) = M 17 0 0 (8 * d + k) := by
  rw [y_at]
  unfold y_S
  rw [if_neg (by omega), if_pos (by omega), show 13 + 8 * d + k - 13 = 8 * d + k from by omega]
theorem y_170 {d : Nat} (hd : d < 8) : y_K M 16 0 0 (13 + 8 * d) = M 17 0 0 (8 * d) := y_17 (k := 0) hd (by decide)
theorem y_18 {c k : Nat} (hc : c < 10) (hk : k < 6) : y_K M 16 0 0 (77 + 6 * c + k) = M 18 0 0 (6 * c + k) := by
  rw [y_at]
  unfold y_S
  rw [if_neg (by omega), if_neg (by omega), if_pos (by omega), show 77 + 6 * c + k - 77 = 6 * c + k from by omega]
theorem y_180 {c : Nat} (hc : c < 10) : y_K M 16 0 0 (77 + 6 * c) = M 18 0 0 (6 * c) := y_18 (k := 0) hc (by decide)
theorem y_19 {b k : Nat} : y_K M 16 0 0 (137 + 3 * b + k) = M 19 0 0 (3 * b + k) := by
  rw [y_at]
  unfold y_S
  rw [if_neg (by omega), if_neg (by omega), if_neg (by omega), show 137 + 3 * b + k - 137 = 3 * b + k from by omega]
theorem y_190 {b : Nat} : y_K M 16 0 0 (137 + 3 * b) = M 19 0 0 (3 * b) := y_19 (k := 0)
theorem y_s16 {k : Nat} (h : k < 13) : y_K (m_set M 16 0 0 k v) = m_set (y_K M) 16 0 0 k v := by
  funext a b c i
  simp only [m_set_at, y_K, y_S]
  by_cases ha : a = 16 ∧ b = 0 ∧ c = 0
  · obtain ⟨rfl, rfl, rfl⟩ := ha
    simp only [true_and, if_true, and_self, Nat.reduceEqDiff, false_and, if_false]
    repeat' split
    all_goals first | rfl | (exfalso; omega)
  · rw [if_neg ha, if_neg (fun q => ha ⟨q.1, q.2.1, q.2.2.1⟩), if_neg ha]
theorem y_s17' {k : Nat} (h : k < 64) : y_K (m_set M 17 0 0 k v) = m_set (y_K M) 16 0 0 (13 + k) v := by
  funext a b c i
  simp only [m_set_at, y_K, y_S]
  by_cases ha : a = 16 ∧ b = 0 ∧ c = 0
  · obtain ⟨rfl, rfl, rfl⟩ := ha
    simp only [true_and, if_true, and_self, Nat.reduceEqDiff, false_and, if_false]
    repeat' split
    all_goals first | rfl | (exfalso; omega)
  · rw [if_neg ha, if_neg (fun q => ha ⟨q.1, q.2.1, q.2.2.1⟩), if_neg ha]
theorem y_s18' {k : Nat} (h : k < 60) : y_K (m_set M 18 0 0 k v) = m_set (y_K M) 16 0 0 (77 + k) v := by
  funext a b c i
  simp only [m_set_at, y_K, y_S]
  by_cases ha : a = 16 ∧ b = 0 ∧ c = 0
  · obtain ⟨rfl, rfl, rfl⟩ := ha
    simp only [true_and, if_true, and_self, Nat.reduceEqDiff, false_and, if_false]
    repeat' split
    all_goals first | rfl | (exfalso; omega)
  · rw [if_neg ha, if_neg (fun q => ha ⟨q.1, q.2.1, q.2.2.1⟩), if_neg ha]
theorem y_s19' {k : Nat} : y_K (m_set M 19 0 0 k v) = m_set (y_K M) 16 0 0 (137 + k) v := by
  funext a b c i
  simp only [m_set_at, y_K, y_S]
  by_cases ha : a = 16 ∧ b = 0 ∧ c = 0
  · obtain ⟨rfl, rfl, rfl⟩ := ha
    simp only [true_and, if_true, and_self, Nat.reduceEqDiff, false_and, if_false]
    repeat' split
    all_goals first | rfl | (exfalso; omega)
  · rw [if_neg ha, if_neg (fun q => ha ⟨q.1, q.2.1, q.2.2.1⟩), if_neg ha]
theorem y_so {a b c k : Nat} (h : a < 16 ∨ 19 < a) : y_K (m_set M a b c k v) = y_K M := by
  funext a' b' c' i
  unfold y_K y_S
  rw [m_set_n (by omega), m_set_n (by omega), m_set_n (by omega), m_set_n (by omega)]
theorem y_cg {M' : m_Mem} (h : ∀ a b c k, 15 < a → a < 20 → M' a b c k = M a b c k) : y_K M' = y_K M := by
  funext a' b' c' i
  unfold y_K y_S
  rw [h 16 _ _ _ (by decide) (by decide), h 17 _ _ _ (by decide) (by decide), h 18 _ _ _ (by decide) (by decide), h 19 _ _ _ (by decide) (by decide)]
theorem y_s17 {d k : Nat} (hd : d < 8) (hk : k < 8) : y_K (m_set M 17 0 0 (8 * d + k) v) = m_set (y_K M) 16 0 0 (13 + 8 * d + k) v := by
  rw [y_s17' (by omega), Nat.add_assoc 13]
theorem y_s170 {d : Nat} (hd : d < 8) : y_K (m_set M 17 0 0 (8 * d) v) = m_set (y_K M) 16 0 0 (13 + 8 * d) v := y_s17' (by omega)
theorem y_s18 {c k : Nat} (hc : c < 10) (hk : k < 6) : y_K (m_set M 18 0 0 (6 * c + k) v) = m_set (y_K M) 16 0 0 (77 + 6 * c + k) v := by
  rw [y_s18' (by omega), Nat.add_assoc 77]
theorem y_s180 {c : Nat} (hc : c < 10) : y_K (m_set M 18 0 0 (6 * c) v) = m_set (y_K M) 16 0 0 (77 + 6 * c) v := y_s18' (by omega)
theorem y_s19 {b k : Nat} : y_K (m_set M 19 0 0 (3 * b + k) v) = m_set (y_K M) 16 0 0 (137 + 3 * b + k) v := by
  rw [y_s19', Nat.add_assoc 137]
theorem y_s190 {b : Nat} : y_K (m_set M 19 0 0 (3 * b) v) = m_set (y_K M) 16 0 0 (137 + 3 * b) v := y_s19'
end ROW
