/-! A WHOLE TEXT, read by both. -/
/-- places of the class's orders from a on -/
def t_ps (t : Nat → Int32) (L a : Nat) : Nat → Nat
  | 0 => a
  | i + 1 => (c_n t L (t_ps t L a i)).1 + 1
theorem t_ps_s (t : Nat → Int32) (L a : Nat) : ∀ i, t_ps t L ((c_n t L a).1 + 1) i = t_ps t L a (i + 1)
  | 0 => rfl
  | i + 1 => by
    show (c_n t L (t_ps t L ((c_n t L a).1 + 1) i)).1 + 1 = (c_n t L (t_ps t L a (i + 1))).1 + 1
    rw [t_ps_s t L a i]
/-- an order of the list is the one that the class reads at a -/
def t_eq (t : Nat → Int32) (L a : Nat) (k d g : Int32) : Prop := a < L ∧ c_sg t L (c_a1 t L a) = k ∧ ((k = 109 ∨ k = 110) ∨ ((k = 119 ∨ k = 99 ∨ k = 103) ∧ c_d t L a = d ∧ (c_n t L a).2 = g))
/-- what the reading of the orders from the n-th on, at a, comes to -/
def t_res (t : Nat → Int32) (L a n : Nat) (r : Int32 × m_Mem) : Prop :=
  ∃ a', r.2 15 0 0 8 = nI a' ∧ a ≤ a' ∧ a' ≤ L ∧ t_nb t a a' ∧
    ((r.1 = 1 ∧ a' = L ∧ 4 ≤ f_stt t L ∧ ∃ m, r.2 15 0 0 9 = nI (n + m) ∧ 2 * (n + m) ≤ L + 1 ∧ L < t_ps t L a m ∧ t_ps t L a m < 1000 ∧ ∀ i, i < m → t_eq t L (t_ps t L a i) (r.2 21 0 0 (3 * (n + i))) (r.2 21 0 0 (3 * (n + i) + 1)) (r.2 21 0 0 (3 * (n + i) + 2)))
      ∨ (r.1 = 0 ∧ ((a' = L ∧ f_stt t L < 4) ∨ (a' < L ∧ f_stt t (a' + 1) = -1))))
theorem t_tx {L : Nat} (hL : L ≤ 60) : ∀ (f a n : Nat) (M : m_Mem), L + 1 ≤ a + f → a ≤ L → 2 * n ≤ a → M 15 0 0 8 = nI a → M 15 0 0 9 = nI n → f_stt (M 20 0 0) a = 0 →
    t_res (M 20 0 0) L a n (k_tx L f M) ∧ ∀ i, i < 3 * n → (k_tx L f M).2 21 0 0 i = M 21 0 0 i := by
  intro f
  induction f with
  | zero => intro a n M h1 h2; omega
  | succ f ih =>
    intro a n M hf ha hn h8 h9 h0
    obtain ⟨a', o8, o1, o2, o3, o4, o5⟩ := t_or (b := 3 * n) ha h8 h0
    obtain ⟨kp, -, -⟩ := k_or_ok (b := 3 * n) ha h8
    have e : k_tx L (f + 1) M = if (k_or M L (3 * n) a).1 = 0 then (0, (k_or M L (3 * n) a).2) else if k_at (M 20 0 0) L a' 59 59 = 1 then k_tx L f (m_set (m_set (k_or M L (3 * n) a).2 15 0 0 9 (nI (n + 1))) 15 0 0 8 (nI (a' + 1)))
        else (if a' = L then 1 else 0, m_set (m_set (k_or M L (3 * n) a).2 15 0 0 9 (nI (n + 1))) 15 0 0 8 (nI a')) := by
      have e8 : m_set (k_or M L (3 * n) a).2 15 0 0 9 (nI (n + 1)) 15 0 0 8 = nI a' := by
        rw [m_set_n (by omega)]; exact o8
      rw [k_tx]
      rw [h9, h8, nI_clamp (by omega : n < 2 ^ 31), nI_clamp (by omega : a < 2 ^ 31), e8, nI_clamp (by omega : a' < 2 ^ 31)]
    rw [e]
    rcases o4 with ⟨p1, p2, p3, p4⟩ | ⟨p1, p2, p3⟩
    · have h10 : ¬ (k_or M L (3 * n) a).1 = 0 := by rw [p1]; decide
      rw [if_neg h10]
      by_cases hc : k_at (M 20 0 0) L a' 59 59 = 1
      · rw [if_pos hc]
        obtain ⟨g1, g2⟩ := k_atE hc
        have k20 : (m_set (m_set (k_or M L (3 * n) a).2 15 0 0 9 (nI (n + 1))) 15 0 0 8 (nI (a' + 1))) 20 0 0 = M 20 0 0 := by
          funext i
          rw [m_set_n (by omega), m_set_n (by omega)]
          exact congrFun kp.2.2 i
        have s0 : f_stt (M 20 0 0) (a' + 1) = 0 := by rw [p3.2 g1, if_pos g2]
        obtain ⟨q1, q2⟩ := ih (a' + 1) (n + 1) (m_set (m_set (k_or M L (3 * n) a).2 15 0 0 9 (nI (n + 1))) 15 0 0 8 (nI (a' + 1))) (by omega) (by omega) (by omega) m_set_i (by rw [m_set_n (by omega), m_set_i]) (by rw [k20]; exact s0)
        rw [k20] at q1
        have k21 : ∀ i, (m_set (m_set (k_or M L (3 * n) a).2 15 0 0 9 (nI (n + 1))) 15 0 0 8 (nI (a' + 1))) 21 0 0 i = (k_or M L (3 * n) a).2 21 0 0 i := fun i => by rw [m_set_n (by omega), m_set_n (by omega)]
        generalize k_tx L f (m_set (m_set (k_or M L (3 * n) a).2 15 0 0 9 (nI (n + 1))) 15 0 0 8 (nI (a' + 1))) = r at q1 q2
        refine ⟨?_, fun i hi => ?_⟩
        · obtain ⟨b, b1, b2, b3, b4, b5⟩ := q1
          refine ⟨b, b1, by omega, b3, t_nb_t o3 b4, ?_⟩
          rcases b5 with ⟨v1, v2, v3, m, v4, v5, v6, v7, v8⟩ | h
          · refine Or.inl ⟨v1, v2, v3, m + 1, by rw [v4]; exact congrArg nI (by omega), by omega, ?_, ?_, fun i hi => ?_⟩
            · have t1 := p4 (fun _ => g2)
              rw [← t_ps_s, t1.1]
              exact v6
            · have t1 := p4 (fun _ => g2)
              rw [← t_ps_s, t1.1]
              exact v7
            · have t1 := p4 (fun _ => g2)
              cases i with
              | zero =>
                show t_eq _ _ a _ _ _
                rw [Nat.add_zero, q2 _ (by omega), q2 _ (by omega), q2 _ (by omega), k21, k21, k21]
                exact ⟨by omega, t1.2⟩
              | succ i =>
                rw [← t_ps_s, t1.1]
                have := v8 i (by omega)
                rw [show n + 1 + i = n + (i + 1) by omega] at this
                exact this
          · exact Or.inr h
        · rw [q2 i (by omega), k21]
          exact o5 i hi
      · rw [if_neg hc]
        have k21 : ∀ i, (m_set (m_set (k_or M L (3 * n) a).2 15 0 0 9 (nI (n + 1))) 15 0 0 8 (nI a')) 21 0 0 i = (k_or M L (3 * n) a).2 21 0 0 i := fun i => by rw [m_set_n (by omega), m_set_n (by omega)]
        have kA : (m_set (m_set (k_or M L (3 * n) a).2 15 0 0 9 (nI (n + 1))) 15 0 0 8 (nI a')) 15 0 0 8 = nI a' := m_set_i
        have kB : (m_set (m_set (k_or M L (3 * n) a).2 15 0 0 9 (nI (n + 1))) 15 0 0 8 (nI a')) 15 0 0 9 = nI (n + 1) := by rw [m_set_n (by omega), m_set_i]
        generalize m_set (m_set (k_or M L (3 * n) a).2 15 0 0 9 (nI (n + 1))) 15 0 0 8 (nI a') = K at k21 kA kB ⊢
        refine ⟨⟨a', kA, o1, o2, o3, ?_⟩, fun i hi => (k21 i).trans (o5 i hi)⟩
        by_cases hl : a' = L
        · have t1 := p4 (fun q => by omega)
          refine Or.inl ⟨if_pos hl, hl, by rw [← hl]; exact p3.1, 1, kB, by omega, ?_, ?_, fun i hi => ?_⟩
          · show L < (c_n (M 20 0 0) L a).1 + 1
            rw [t1.1]
            omega
          · show (c_n (M 20 0 0) L a).1 + 1 < 1000
            rw [t1.1]
            omega
          · have i0 : i = 0 := by omega
            subst i0
            show t_eq _ _ a (K 21 0 0 (3 * (n + 0))) (K 21 0 0 (3 * (n + 0) + 1)) (K 21 0 0 (3 * (n + 0) + 2))
            rw [Nat.add_zero, k21, k21, k21]
            exact ⟨by omega, t1.2⟩
        · refine Or.inr ⟨if_neg hl, Or.inr ⟨by omega, ?_⟩⟩
          rw [p3.2 (by omega), if_neg (k_atN hc (by omega))]
    · rw [if_pos p1]
      refine ⟨⟨a', o8, o1, o2, o3, Or.inr ⟨rfl, ?_⟩⟩, o5⟩
      by_cases hl : a' = L
      · exact Or.inl ⟨hl, by rw [← hl]; exact p2⟩
      · exact Or.inr ⟨by omega, p3 (by omega)⟩
/-- the first error's place, from what the states say -/
theorem t_ei {t : Nat → Int32} {L b : Nat} (hb : b ≤ L) (h : t_nb t 0 b) (h2 : b = L ∨ f_stt t (b + 1) = -1) : ∀ k i, i + k = L → i ≤ b → f_ei t k i = b := by
  intro k
  induction k with
  | zero =>
    intro i h3 h4
    show i = b
    omega
  | succ k ih =>
    intro i h3 h4
    show (if f_stt t (i + 1) = -1 then i else f_ei t k (i + 1)) = b
    by_cases e : i = b
    · subst e
      rcases h2 with h2 | h2
      · omega
      · rw [if_pos h2]
    · rw [if_neg (h (i + 1) (by omega) (by omega))]
      exact ih (i + 1) (by omega) (by omega)
/-- the two readings of a text: does it tell a day, where is its first error, its orders -/
theorem t_both {L : Nat} (hL : L ≤ 60) {M : m_Mem} (h8 : M 15 0 0 8 = 0) (h9 : M 15 0 0 9 = 0) :
    ((k_tx L (L + 1) M).1 = 1 ∧ 4 ≤ f_stt (M 20 0 0) L ∧ f_ei (M 20 0 0) L 0 = L ∧ ∃ m, (k_tx L (L + 1) M).2 15 0 0 9 = nI m ∧ m ≤ 30 ∧ L < t_ps (M 20 0 0) L 0 m ∧ t_ps (M 20 0 0) L 0 m < 1000 ∧ ∀ i, i < m → t_eq (M 20 0 0) L (t_ps (M 20 0 0) L 0 i) ((k_tx L (L + 1) M).2 21 0 0 (3 * i)) ((k_tx L (L + 1) M).2 21 0 0 (3 * i + 1)) ((k_tx L (L + 1) M).2 21 0 0 (3 * i + 2))) ∨
    ((k_tx L (L + 1) M).1 = 0 ∧ f_stt (M 20 0 0) L < 4 ∧ (k_tx L (L + 1) M).2 15 0 0 8 = nI (f_ei (M 20 0 0) L 0)) := by
  obtain ⟨⟨b, b1, b2, b3, b4, b5⟩, -⟩ := t_tx hL (L + 1) 0 0 M (by omega) (by omega) (by omega) h8 h9 rfl
  rcases b5 with ⟨v1, v2, v3, m, v4, v5, v6, v7, v8⟩ | ⟨v1, v2⟩
  · refine Or.inl ⟨v1, v3, ?_, m, by rw [v4, Nat.zero_add], by omega, v6, v7, fun i hi => ?_⟩
    · rw [t_ei b3 b4 (Or.inl v2) L 0 (by omega) (by omega), v2]
    · have := v8 i hi
      rw [Nat.zero_add] at this
      exact this
  · refine Or.inr ⟨v1, ?_, ?_⟩
    · rcases v2 with ⟨w1, w2⟩ | ⟨w1, w2⟩
      · exact w2
      · have := t_stk w2 (L - (b + 1))
        rw [show b + 1 + (L - (b + 1)) = L by omega] at this
        rw [this]
        decide
    · rw [b1, t_ei b3 b4 (v2.elim (fun w => Or.inl w.1) (fun w => Or.inr w.2)) L 0 (by omega) (by omega)]
/-- texts that agree up to L -/
theorem t_cg {t u : Nat → Int32} {L : Nat} (h : ∀ i, i < L → t i = u i) : ∀ n, n ≤ L → f_stt t n = f_stt u n
  | 0, _ => rfl
  | n + 1, hn => by
    show (if f_stt t n = -1 then -1 else f_bh (f_stt t n) (t n)) = (if f_stt u n = -1 then -1 else f_bh (f_stt u n) (u n))
    rw [t_cg h n (by omega), h n (by omega)]
theorem t_cge {t u : Nat → Int32} {L : Nat} (h : ∀ i, i < L → t i = u i) : ∀ k i, i + k ≤ L → f_ei t k i = f_ei u k i
  | 0, _, _ => rfl
  | k + 1, i, hk => by
    show (if f_stt t (i + 1) = -1 then i else f_ei t k (i + 1)) = (if f_stt u (i + 1) = -1 then i else f_ei u k (i + 1))
    rw [t_cg h (i + 1) (by omega), t_cge h k (i + 1) (by omega)]
theorem t_cgs {t u : Nat → Int32} {L : Nat} (h : ∀ i, i < L → t i = u i) : c_sg t L = c_sg u L := by
  funext i
  unfold c_sg
  split
  · rename_i h2
    exact h i h2
  · rfl
theorem t_cgd {t u : Nat → Int32} {L : Nat} (h : ∀ i, i < L → t i = u i) : ∀ f a v, c_dn t L f a v = c_dn u L f a v
  | 0, _, _ => rfl
  | f + 1, a, v => by
    show (if f_dg (c_sg t L a) = 1 then c_dn t L f (a + 1) (10 * v + (c_sg t L a - 48)) else (a, v)) = (if f_dg (c_sg u L a) = 1 then c_dn u L f (a + 1) (10 * v + (c_sg u L a - 48)) else (a, v))
    rw [t_cgs h, t_cgd h f]
