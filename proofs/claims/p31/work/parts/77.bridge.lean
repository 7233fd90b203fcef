/-! THE LAW'S SUMS, seen as one row, are the operations that the class's camp keeps up with. -/
section BRIDGE
variable {M K : m_Mem} {N B : Nat}
theorem i_lk (x g : Int32) : (if x < g then g - x else 0) = g - (if g < x then g else x) := by
  by_cases h : x < g
  · rw [if_pos h, if_neg (Int32.not_lt.mpr (Int32.le_of_lt h))]
  · rw [if_neg h]
    by_cases h2 : g < x
    · rw [if_pos h2, Int32.sub_self]
    · have e : g = x := Int32.le_antisymm (Int32.not_lt.mp h) (Int32.not_lt.mp h2)
      rw [if_neg h2, e, Int32.sub_self]
theorem i_xg (x g t : Int32) : x + (g - t - g) = x - t := by
  rw [Int32.sub_eq_add_neg (g - t), Int32.sub_eq_add_neg g, Int32.add_comm g, Int32.add_assoc (-t), ← Int32.sub_eq_add_neg g, Int32.sub_self, Int32.add_zero, ← Int32.sub_eq_add_neg]
theorem y_bu {d : Nat} (hd : d < 8) (g : Int32) : y_K (l_bu M d g) = k_bu (y_K M) d g := by
  unfold l_bu k_bu k_lk
  simp only [Nat.add_zero]
  rw [y_s17 hd (by decide), y_s17 hd (by decide), y_s170 hd, i_lk, i_xg, y_170 hd]
  simp (disch := omega) only [m_set_n, y_17]
theorem y_me {b : Nat} : y_K (l_me M b) = k_me (y_K M) b ↔ M 16 0 0 5 + 1 = nI (b + 1) := by
  have e1 : k_mt (y_K M) b 3 = m_set (m_set (m_set (m_set (m_set (m_set (y_K M) 16 0 0 (137 + 3 * b) (M 16 0 0 2)) 16 0 0 (137 + 3 * b + 1) (M 16 0 0 3)) 16 0 0 (137 + 3 * b + 2) (M 16 0 0 4)) 16 0 0 2 0) 16 0 0 3 0) 16 0 0 4 0 := by
    unfold k_mt k_mt k_mt k_mt
    simp only [Nat.add_zero, Nat.reduceAdd]
    simp (disch := omega) only [m_set_n, y_16]
    rw [m_sc (k := 2) (k2 := 137 + 3 * b + 1) (by omega), m_sc (k := 3) (k2 := 137 + 3 * b + 2) (by omega), m_sc (k := 2) (k2 := 137 + 3 * b + 2) (by omega)]
  have e2 : k_mt (y_K M) b 3 16 0 0 5 = M 16 0 0 5 := by
    rw [e1]
    simp (disch := omega) only [m_set_n, y_16]
  unfold l_me k_me
  rw [e2, e1, y_s16 (by decide), y_s16 (by decide), y_s16 (by decide), y_s16 (by decide), y_s19, y_s19, y_s190]
  constructor
  · intro h
    have := congrFun (congrFun (congrFun (congrFun h 16) 0) 0) 5
    rw [m_set_i, m_set_i] at this
    exact this.symm
  · intro h
    rw [h]
theorem y_ad16 {i : Nat} {v : Int32} (h : i < 13) : y_K (l_ad M 16 i v) = k_ad (y_K M) i v := by
  unfold l_ad k_ad
  rw [y_s16 h, y_16 h]
theorem y_ad17 {d k : Nat} {v : Int32} (hd : d < 8) (hk : k < 8) : y_K (l_ad M 17 (8 * d + k) v) = k_ad (y_K M) (13 + 8 * d + k) v := by
  unfold l_ad k_ad
  rw [y_s17 hd hk, y_17 hd hk]
theorem y_ad170 {d : Nat} {v : Int32} (hd : d < 8) : y_K (l_ad M 17 (8 * d) v) = k_ad (y_K M) (13 + 8 * d + 0) v := y_ad17 (k := 0) hd (by decide)
theorem y_ad18 {c k : Nat} {v : Int32} (hc : c < 10) (hk : k < 6) : y_K (l_ad M 18 (6 * c + k) v) = k_ad (y_K M) (77 + 6 * c + k) v := by
  unfold l_ad k_ad
  rw [y_s18 hc hk, y_18 hc hk]
theorem y_sub17 {d k : Nat} {v : Int32} (hd : d < 8) (hk : k < 8) : y_K (m_set M 17 0 0 (8 * d + k) (M 17 0 0 (8 * d + k) - v)) = k_ad (y_K M) (13 + 8 * d + k) (-v) := by
  unfold k_ad
  rw [y_s17 hd hk, y_17 hd hk, Int32.sub_eq_add_neg]
theorem y_pays (g : Int32) : l_y M g = k_pays (y_K M) g := by
  unfold l_y l_e l_p k_pays k_fee
  rw [y_16 (show 10 < 13 by decide), y_16 (show 8 < 13 by decide), Int32.mul_comm (M 16 0 0 10)]
theorem y_wi {d c : Nat} (hd : d < 8) (hc : c < 10) (g : Int32) (h6 : M 16 0 0 6 ≤ 50) : y_K (l_wi M d c g) = k_wi (y_K M) d c g := by
  have ep : l_p M g = k_price (y_K M) g (y_K M 16 0 0 8) := by unfold l_p; rw [y_16 (by decide)]
  have et : l_t M d (l_y M g) = if k_pays (y_K M) g / 2 < y_K M 16 0 0 (13 + 8 * d + 1) then k_pays (y_K M) g / 2 else y_K M 16 0 0 (13 + 8 * d + 1) := by
    unfold l_t
    rw [y_pays, y_17 hd (by decide)]
    generalize k_pays (y_K M) g / 2 = a
    generalize M 17 0 0 (8 * d + 1) = b
    by_cases h : b < a
    · rw [if_pos h, if_neg (Int32.not_lt.mpr (Int32.le_of_lt h))]
    · rw [if_neg h]
      by_cases h2 : a < b
      · rw [if_pos h2]
      · rw [if_neg h2]
        exact Int32.le_antisymm (Int32.not_lt.mp h) (Int32.not_lt.mp h2)
  have ef : l_f M c g = g * y_K M 16 0 0 (77 + 6 * c + 0) / 1000 := by
    unfold l_f
    rw [Nat.add_zero, y_180 hc, Int32.mul_comm]
  have ee : l_e M g = k_price (y_K M) g (y_K M 16 0 0 8) - k_pays (y_K M) g := by
    rw [← y_pays, ← ep]
    unfold l_y
    rw [i_sub_sub]
  have e4 : y_K (l_M4 (l_M3 M d g (l_e M g) (l_y M g) (l_t M d (l_y M g)) (l_f M c g)) c g (l_p M g) (l_f M c g)) = k_M4 (y_K M) d c g := by
    unfold l_M4 l_M3 k_M4
    dsimp only
    rw [et, ef, ee, ep, y_pays]
    rw [y_ad16 (by decide), y_ad16 (by decide), y_ad16 (by decide), y_ad16 (by decide), y_s18 hc (by decide), y_ad18 hc (by decide), y_ad17 hd (by decide), y_ad17 hd (by decide), y_ad17 hd (by decide), y_ad17 hd (by decide), y_sub17 hd (by decide), y_ad170 hd]
  rw [k_wi_e, ← e4]
  unfold l_wi l_M5
  generalize l_M4 (l_M3 M d g (l_e M g) (l_y M g) (l_t M d (l_y M g)) (l_f M c g)) c g (l_p M g) (l_f M c g) = Q at e4 ⊢
  have hq : Q 16 0 0 6 ≤ 50 := by
    have : Q 16 0 0 6 = y_K Q 16 0 0 6 := (y_16 (by decide)).symm
    rw [this, e4]
    unfold k_M4
    simp (disch := omega) only [k_ad_n, m_set_n, y_16]
    exact h6
  rw [y_ad16 (by decide), y_16 (show 7 < 13 by decide), y_16 (show 12 < 13 by decide), y_16 (show 6 < 13 by decide)]
  congr 1
  have hiff : (¬ Q 16 0 0 6 = 50) ↔ Q 16 0 0 6 < 50 := ⟨fun h => Int32.lt_of_le_of_ne hq h, fun h e => by rw [e] at h; exact absurd h (by decide)⟩
  by_cases h1 : Q 16 0 0 7 - Q 16 0 0 7 / Q 16 0 0 12 * Q 16 0 0 12 = 0
  · by_cases h2 : Q 16 0 0 6 < 50
    · rw [if_pos ⟨h1, hiff.mpr h2⟩, if_pos ⟨h1, h2⟩]
    · rw [if_neg (fun q => h2 (hiff.mp q.2)), if_neg (fun q => h2 q.2)]
  · rw [if_neg (fun q => h1 q.1), if_neg (fun q => h1 q.1)]
/-- a claim without a digger counts 0 days -/
def y_f (K : m_Mem) : Prop := ∀ c, c < 10 → K 16 0 0 (77 + 6 * c + 1) < 0 → K 16 0 0 (77 + 6 * c + 2) = 0
theorem k_p1_at {n c j : Nat} (hn : n < 10) (hc : c < 10) (hj : j < 6) (hne : c ≠ n) (ho : K 16 0 0 (77 + 6 * n + 1) < 0 ∨ ∃ d, d < 8 ∧ K 16 0 0 (77 + 6 * n + 1) = nI d) : k_p1 K n 16 0 0 (77 + 6 * c + j) = K 16 0 0 (77 + 6 * c + j) := by
  unfold k_p1
  rw [m_set_n (by omega)]
  rcases ho with ho | ⟨d, hd, ho⟩
  · rw [if_pos ho]
  · rw [if_neg (by rw [ho]; exact nI_pos (by omega))]
    dsimp only
    split
    · rw [m_set_n (by omega)]
    · unfold k_fr
      rw [ho, nI_clamp (by omega)]
      simp (disch := omega) only [m_set_n]
theorem y_f_p1 (h : y_f K) {n : Nat} (hn : n < 10) (ho : K 16 0 0 (77 + 6 * n + 1) < 0 ∨ ∃ d, d < 8 ∧ K 16 0 0 (77 + 6 * n + 1) = nI d) : y_f (k_p1 K n) := by
  intro c hc hl
  by_cases e : c = n
  · subst e
    unfold k_p1 at hl ⊢
    by_cases h0 : K 16 0 0 (77 + 6 * c + 1) < 0
    · rw [if_pos h0, m_set_n (by omega)]
      exact h c hc h0
    · rw [if_neg h0] at hl ⊢
      dsimp only at hl ⊢
      by_cases h1 : k_id K c < m_set K 16 0 0 (77 + 6 * c + 2) (k_id K c) 16 0 0 11
      · rw [if_pos h1, m_set_n (by omega), m_set_n (by omega)] at hl
        exact absurd hl h0
      · rw [if_neg h1]
        unfold k_fr
        rw [m_set_n (by omega), m_set_n (by omega), m_set_i]
  · rw [k_p1_at hn hc (by decide) e ho] at hl ⊢
    exact h c hc hl
theorem y_p1 {n : Nat} (hn : n < 10) (ho : M 18 0 0 (6 * n + 1) < 0 ∨ ∃ d, d < 8 ∧ M 18 0 0 (6 * n + 1) = nI d) (hz : M 18 0 0 (6 * n + 1) < 0 → M 18 0 0 (6 * n + 2) = 0) : y_K (l_p1 M n) = k_p1 (y_K M) n ∧ l_l1 M n = k_l1 (y_K M) n := by
  have e1 : y_K M 16 0 0 (77 + 6 * n + 1) = M 18 0 0 (6 * n + 1) := y_18 hn (by decide)
  have e2 : y_K M 16 0 0 (77 + 6 * n + 2) = M 18 0 0 (6 * n + 2) := y_18 hn (by decide)
  have e5 : y_K M 16 0 0 (77 + 6 * n + 5) = M 18 0 0 (6 * n + 5) := y_18 hn (by decide)
  have e11 : y_K M 16 0 0 11 = M 16 0 0 11 := y_16 (by decide)
  have eq1 : y_K (l_q1 M n) = m_set (m_set (y_K M) 16 0 0 (77 + 6 * n + 2) (l_id M n)) 16 0 0 (77 + 6 * n + 5) 0 := by
    unfold l_q1
    rw [y_s18 hn (by decide), y_s18 hn (by decide)]
  rcases ho with ho | ⟨d, hd, ho⟩
  · have hi : l_id M n = y_K M 16 0 0 (77 + 6 * n + 2) := by
      rw [e2, hz ho]
      exact if_pos (Or.inr ho)
    refine ⟨?_, ?_⟩
    · unfold l_p1 k_p1
      rw [if_pos (Or.inl ho), if_pos (by rw [e1]; exact ho), eq1, hi, m_se]
    · unfold l_l1 k_l1
      rw [if_pos (Or.inl ho), if_pos (by rw [e1]; exact ho)]
  · have h0 : ¬ M 18 0 0 (6 * n + 1) < 0 := by rw [ho]; exact nI_pos (by omega)
    have hi : l_id M n = k_id (y_K M) n := by
      unfold l_id k_id
      rw [e5, e2]
      by_cases h5 : M 18 0 0 (6 * n + 5) = 1
      · rw [if_pos (Or.inl h5), if_pos h5]
      · rw [if_neg (fun q => q.elim h5 h0), if_neg h5]
    have ea : m_set (y_K M) 16 0 0 (77 + 6 * n + 2) (k_id (y_K M) n) 16 0 0 11 = M 16 0 0 11 := by rw [m_set_n (by omega), e11]
    refine ⟨?_, ?_⟩
    · unfold l_p1 k_p1
      rw [if_neg (c := y_K M 16 0 0 (77 + 6 * n + 1) < 0) (by rw [e1]; exact h0)]
      dsimp only
      rw [ea, ← hi]
      by_cases h1 : l_id M n < M 16 0 0 11
      · rw [if_pos (Or.inr h1), if_pos h1, eq1]
      · rw [if_neg (fun q => q.elim h0 h1), if_neg h1, e1, ho, nI_clamp (by omega)]
        unfold l_ad k_fr
        rw [y_s18 hn (by decide), y_s18 hn (by decide), y_s18 hn (by decide), y_s17 hd (by decide), eq1]
        have e4 : m_set (m_set (m_set (l_q1 M n) 17 0 0 (8 * d + 2) (-1)) 18 0 0 (6 * n + 1) (-1)) 18 0 0 (6 * n + 2) 0 18 0 0 (6 * n + 4) = y_K M 16 0 0 (77 + 6 * n + 4) := by
          rw [y_18 hn (by decide)]
          unfold l_q1
          simp (disch := omega) only [m_set_n]
        have e4k : m_set (m_set (m_set (m_set (y_K M) 16 0 0 (77 + 6 * n + 2) (l_id M n)) 16 0 0 (13 + 8 * d + 2) (-1)) 16 0 0 (77 + 6 * n + 1) (-1)) 16 0 0 (77 + 6 * n + 2) 0 16 0 0 (77 + 6 * n + 4) = y_K M 16 0 0 (77 + 6 * n + 4) := by
          simp (disch := omega) only [m_set_n]
        rw [e4, e4k]
        rw [m_sc (k := 77 + 6 * n + 5) (k2 := 13 + 8 * d + 2) (by omega), m_sc (k := 77 + 6 * n + 5) (k2 := 77 + 6 * n + 1) (by omega), m_sc (k := 77 + 6 * n + 5) (k2 := 77 + 6 * n + 2) (by omega), m_sc (k := 77 + 6 * n + 5) (k2 := 77 + 6 * n + 4) (by omega)]
    · unfold l_l1 k_l1
      rw [if_neg (c := y_K M 16 0 0 (77 + 6 * n + 1) < 0) (by rw [e1]; exact h0), e11, ← hi]
      by_cases h1 : l_id M n < M 16 0 0 11
      · rw [if_pos (Or.inr h1), if_pos h1]
      · rw [if_neg (fun q => q.elim h0 h1), if_neg h1]
theorem y_pn (hf : y_f (y_K M)) (hk : k_ok (y_K M)) : ∀ n, n ≤ 10 → y_K (l_pn M n) = k_pn (y_K M) n ∧ y_f (k_pn (y_K M) n) ∧ l_ln M n = k_ln (y_K M) n
  | 0, _ => ⟨rfl, hf, rfl⟩
  | n + 1, hn => by
    obtain ⟨h1, h2, h3⟩ := y_pn hf hk n (by omega)
    have ho := hk n (by omega)
    have ho2 := ho
    rw [← h1, y_18 (show n < 10 by omega) (show 1 < 6 by decide)] at ho2
    have hz : l_pn M n 18 0 0 (6 * n + 1) < 0 → l_pn M n 18 0 0 (6 * n + 2) = 0 := by
      intro q
      have := h2 n (by omega)
      rw [← h1, y_18 (show n < 10 by omega) (show 1 < 6 by decide), y_18 (show n < 10 by omega) (show 2 < 6 by decide)] at this
      exact this q
    obtain ⟨g1, g2⟩ := y_p1 (M := l_pn M n) (n := n) (by omega) ho2 hz
    refine ⟨?_, ?_, ?_⟩
    · show y_K (l_p1 (l_pn M n) n) = k_p1 (k_pn (y_K M) n) n
      rw [g1, h1]
    · exact y_f_p1 h2 (by omega) ho
    · show l_ln M n + l_l1 (l_pn M n) n = k_ln (y_K M) n + k_l1 (k_pn (y_K M) n) n
      rw [h3, g2, h1]
theorem y_lok (hf : y_f (y_K M)) (hk : k_ok (y_K M)) : l_ok M := by
  intro c hc
  have := hk c hc
  rw [← (y_pn hf hk c (by omega)).1, y_18 hc (by decide)] at this
  exact this
theorem y_dy (hf : y_f (y_K M)) (hk : k_ok (y_K M)) : y_K (l_dy M) = k_dy (y_K M) ∧ y_f (k_dy (y_K M)) ∧ l_ln M 10 = k_ln (y_K M) 10 := by
  obtain ⟨h1, h2, h3⟩ := y_pn hf hk 10 (Nat.le_refl _)
  refine ⟨?_, ?_, h3⟩
  · unfold l_dy k_dy
    rw [y_ad16 (by decide), h1]
    rfl
  · intro c hc hl
    unfold k_dy at hl ⊢
    rw [m_set_n (by omega)] at hl ⊢
    exact h2 c hc hl
theorem y_dn (hf : y_f (y_K M)) {v : Nat} (hE : ∀ i, i < v → k_ok (k_dn (y_K M) i)) : ∀ n, n ≤ v → y_K (l_dn M n) = k_dn (y_K M) n ∧ y_f (k_dn (y_K M) n) ∧ l_dl M n = k_dl (y_K M) n
  | 0, _ => ⟨rfl, hf, rfl⟩
  | n + 1, hn => by
    obtain ⟨h1, h2, h3⟩ := y_dn hf hE n (by omega)
    have hk := hE n (by omega)
    rw [← h1] at hk h2
    obtain ⟨g1, g2, g3⟩ := y_dy h2 hk
    refine ⟨?_, ?_, ?_⟩
    · show y_K (l_dy (l_dn M n)) = k_dy (k_dn (y_K M) n)
      rw [g1, h1]
    · show y_f (k_dy (k_dn (y_K M) n))
      rw [← h1]
      exact g2
    · show l_dl M n + l_ln (l_dn M n) 10 = k_dl (y_K M) n + k_ln (k_dn (y_K M) n) 10
      rw [h3, g3, h1]
theorem y_dlok (hf : y_f (y_K M)) {v : Nat} (hE : ∀ i, i < v → k_ok (k_dn (y_K M) i)) {i : Nat} (hi : i < v) : l_ok (l_dn M i) := by
  obtain ⟨h1, h2, -⟩ := y_dn hf hE i (by omega)
  have hk := hE i hi
  rw [← h1] at hk h2
  exact y_lok h2 hk
end BRIDGE
