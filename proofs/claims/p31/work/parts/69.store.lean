/-! THE WHOLE: camps, snapshots, saved states, text, of the class (memory M) and of the model (memory K). -/
/-- the places of a camp -/
def r_dm (a c k : Nat) : Prop := (a = 7 ∧ c = 0 ∧ 5 ≤ k ∧ k < 10) ∨ (a = 11 ∧ c = 0 ∧ k < 5) ∨ (a = 12 ∧ c < 8 ∧ k < 8) ∨ (a = 13 ∧ c < 10 ∧ k < 6) ∨ (a = 14 ∧ c < 13 ∧ k < 3)
theorem r_cg2 {M M' : m_Mem} {j j' : Nat} {S S' : Nat → Int32} {N B : Nat} (h : r_C M j S N B) (hM : ∀ a c k, r_dm a c k → M' a j' c k = M a j c k) (hS : ∀ i, i < 173 → S' i = S i) : r_C M' j' S' N B := by
  obtain ⟨hA, hD, hL, hG, hO, hV, hF, hW⟩ := h
  have hN8 := hA.1.1
  have hB12 := hA.2.1.1
  have m7 : ∀ k, 5 ≤ k → k < 10 → M' 7 j' 0 k = M 7 j 0 k := fun k h1 h2 => hM 7 0 k (Or.inl ⟨rfl, rfl, h1, h2⟩)
  have m11 : ∀ k, k < 5 → M' 11 j' 0 k = M 11 j 0 k := fun k h => hM 11 0 k (Or.inr (Or.inl ⟨rfl, rfl, h⟩))
  have m12 : ∀ d k, d < 8 → k < 8 → M' 12 j' d k = M 12 j d k := fun d k h1 h2 => hM 12 d k (Or.inr (Or.inr (Or.inl ⟨rfl, h1, h2⟩)))
  have m13 : ∀ d k, d < 10 → k < 6 → M' 13 j' d k = M 13 j d k := fun d k h1 h2 => hM 13 d k (Or.inr (Or.inr (Or.inr (Or.inl ⟨rfl, h1, h2⟩))))
  have m14 : ∀ d k, d < 13 → k < 3 → M' 14 j' d k = M 14 j d k := fun d k h1 h2 => hM 14 d k (Or.inr (Or.inr (Or.inr (Or.inr ⟨rfl, h1, h2⟩))))
  refine ⟨?_, ?_, ?_, ?_, ?_, ?_, ?_, ?_⟩
  · unfold r_A
    rw [m7 5 (by decide) (by decide), m7 6 (by decide) (by decide), m7 7 (by decide) (by decide), m7 8 (by decide) (by decide), m7 9 (by decide) (by decide), m14 12 0 (by decide) (by decide), m14 12 1 (by decide) (by decide), m14 12 2 (by decide) (by decide), m11 0 (by decide), m11 1 (by decide), m11 2 (by decide), m11 3 (by decide), m11 4 (by decide), hS 0 (by omega), hS 1 (by omega), hS 2 (by omega), hS 3 (by omega), hS 4 (by omega), hS 5 (by omega), hS 6 (by omega), hS 7 (by omega), hS 8 (by omega), hS 9 (by omega), hS 10 (by omega), hS 11 (by omega), hS 12 (by omega)]
    exact hA
  · refine ⟨fun d hd k hk => ?_, fun d h1 h2 k hk => ?_⟩
    · rw [m12 d k (by omega) hk, hS _ (by omega)]
      exact hD.1 d hd k hk
    · rw [m12 d k h2 hk]
      exact hD.2 d h1 h2 k hk
  · intro c hc
    unfold r_L1
    rw [m13 c 0 hc (by decide), m13 c 1 hc (by decide), m13 c 2 hc (by decide), m13 c 3 hc (by decide), m13 c 4 hc (by decide), m13 c 5 hc (by decide), hS _ (by omega), hS _ (by omega), hS _ (by omega), hS _ (by omega), hS _ (by omega), hS _ (by omega)]
    exact hL c hc
  · intro b hb
    rw [m14 b 0 (by omega) (by decide), m14 b 1 (by omega) (by decide), m14 b 2 (by omega) (by decide), hS _ (by omega), hS _ (by omega), hS _ (by omega)]
    exact hG b hb
  · refine ⟨fun c hc => ?_, fun d hd => ?_⟩
    · rw [m13 c 1 hc (by decide)]
      exact hO.1 c hc
    · rw [m12 d 2 (by omega) (by decide)]
      rcases hO.2 d hd with h | ⟨c, h1, h2, h3⟩
      · exact Or.inl h
      · exact Or.inr ⟨c, h1, h2, by rw [m13 c 1 h1 (by decide)]; exact h3⟩
  · unfold r_V
    rw [m7 7 (by decide) (by decide), m7 8 (by decide) (by decide), m11 0 (by decide), m11 1 (by decide), m11 2 (by decide), m11 3 (by decide), m11 4 (by decide)]
    exact hV
  · intro c hc
    rw [m13 c 0 hc (by decide)]
    exact hF c hc
  · obtain ⟨g, p, w, l, h1, h2, h3, h4, h5⟩ := hW
    refine ⟨g, p, w, l, fun d hd => ?_, fun b hb => ?_, by rw [m14 12 0 (by decide) (by decide)]; exact h3, h4, h5⟩
    · rw [m12 d 3 (by omega) (by decide), m12 d 4 (by omega) (by decide)]
      exact h1 d hd
    · rw [m14 b 0 (by omega) (by decide)]
      exact h2 b hb
def r_bool (M : m_Mem) (j : Nat) : Prop := ∀ c, c < 10 → m_nok 1 (M 13 j c 3) = true
def r_sta (M : m_Mem) : Prop := (∀ j, j < 5 → M 24 0 0 j = m_s24 j) ∧ (∀ j, j < 5 → M 25 0 0 j = m_s25 j)
section STORE
variable {M M' K K' : m_Mem} {n N B N' B' L : Nat}
theorem r_bool_C {j : Nat} {S : Nat → Int32} (h : r_C M j S N B) : r_bool M j := by
  intro c hc
  rcases (h.2.2.1 c hc).2.2.2.2.2.1 with e | e <;> rw [e] <;> decide
theorem f_q_cg (h : ∀ i, M' 4 0 0 i = M 4 0 0 i) (i : Nat) : f_q M' i = f_q M i := by
  unfold f_q
  rw [h]
-- copies
theorem f_blk_at (M : m_Mem) (a b b2 N K a' b' c' k' : Nat) : f_blk M a b b2 N K a' b' c' k' = if a' = a ∧ b' = b ∧ c' < N ∧ k' < K then M a b2 c' k' else M a' b' c' k' := rfl
theorem f_blk_n {M : m_Mem} {a b b2 N K a' b' c' k' : Nat} (h : ¬ (a' = a ∧ b' = b ∧ c' < N ∧ k' < K)) : f_blk M a b b2 N K a' b' c' k' = M a' b' c' k' := if_neg h
theorem f_blk_i {M : m_Mem} {a b b2 N K c' k' : Nat} (h : c' < N ∧ k' < K) : f_blk M a b b2 N K a b c' k' = M a b2 c' k' := if_pos ⟨rfl, rfl, h⟩
theorem m_cpy_n {M : m_Mem} {a b c b' c' a1 b1 c1 k : Nat} (h : ¬ (a1 = a ∧ b1 = b ∧ c1 = c ∧ k < 5)) : m_cpy M a b c b' c' a1 b1 c1 k = M a1 b1 c1 k := by rw [m_cpy_at, if_neg h]
theorem m_cpy_i {M : m_Mem} {a b c b' c' k : Nat} (h : k < 5) : m_cpy M a b c b' c' a b c k = M a b' c' k := by rw [m_cpy_at, if_pos ⟨rfl, rfl, rfl, h⟩]
theorem f_cm_i {j j2 : Nat} (hne : j ≠ j2) {a c k : Nat} (h : r_dm a c k) : f_cm M j j2 a j c k = M a j2 c k := by
  unfold f_cm
  rcases h with ⟨rfl, rfl, h1, h2⟩ | ⟨rfl, rfl, h1⟩ | ⟨rfl, h1, h2⟩ | ⟨rfl, h1, h2⟩ | ⟨rfl, h1, h2⟩
  · have hk : k = 5 ∨ k = 6 ∨ k = 7 ∨ k = 8 ∨ k = 9 := by omega
    rcases hk with rfl | rfl | rfl | rfl | rfl <;> simp (disch := omega) only [m_set_n, m_set_i]
  · simp (disch := omega) only [m_set_n, m_cpy_i, m_cp_o, f_blk_n]
  · simp (disch := omega) only [m_set_n, m_cpy_n, m_cp_o, f_blk_n, f_blk_i]
  · simp (disch := omega) only [m_set_n, m_cpy_n, m_cp_o, f_blk_n, f_blk_i]
  · by_cases e : c = 12
    · subst e
      simp (disch := omega) only [m_set_n, m_cpy_n, m_cp_i, f_blk_n]
    · simp (disch := omega) only [m_set_n, m_cpy_n, m_cp_o, f_blk_n, f_blk_i]
theorem f_cm_n {j j2 : Nat} {a b c k : Nat} (h : a < 7 ∨ a = 8 ∨ a = 9 ∨ a = 10 ∨ 15 ≤ a) : f_cm M j j2 a b c k = M a b c k := by
  unfold f_cm
  simp (disch := omega) only [m_set_n, m_cpy_n, m_cp_o, f_blk_n]
/-- how many are saved then -/
def r_n (n : Nat) : Nat := if n < 6 then n + 1 else 6
end STORE
