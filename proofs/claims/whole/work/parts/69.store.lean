/-! THE WHOLE: camps, snapshots, saved states, text, of the class (memory M) and of the model (memory K). -/
/-- the places of a camp -/
def r_dm (a c k : Nat) : Prop := (a = 7 ∧ c = 0 ∧ 5 ≤ k ∧ k < 10) ∨ (a = 11 ∧ c = 0 ∧ k < 5) ∨ (a = 12 ∧ c < 8 ∧ k < 8) ∨ (a = 13 ∧ c < 10 ∧ k < 6) ∨ (a = 14 ∧ c < 13 ∧ k < 3)
theorem r_cg2 {M M' : m_Mem} {j j' : Nat} {S S' : Nat → Int32} {N B : Nat} (h : r_C M j S N B) (hM : ∀ a c k, r_dm a c k → M' a j' c k = M a j c k) (hS : ∀ i, i < 173 → S' i = S i) : r_C M' j' S' N B := by
  obtain ⟨hA, hD, hL, hG, hO, hV, hF, hW⟩ := h
  have hN8 := hA.1.1
  have hB12 := hA.2.1.1
  have m7 : ∀ k, 5 ≤ k → k < 10 → M' 7 j' 0 k = M 7 j 0 k := fun k h1 h2 => hM 7 0 k (Or.inl ⟨rfl, rfl, h1, h2⟩)
  have m11 : ∀ k, k < 5 → M' 11 j' 0 k = M 11 j 0 k := fun k h => hM 11 0 k (Or.inr (Or.inl ⟨rfl, rfl, h⟩))
  have m12 : ∀ d k, d < 8 → k < 8 → M' 12 j' d k = M 12 j d k := fun d k h1 h2 => hM 12 d k (Or.inr (Or.inr (Or.inl ⟨rfl, h1, h2⟩)))
  have m13 : ∀ d k, d < 10 → k < 6 → M' 13 j' d k = M 13 j d k := fun d k h1 h2 => hM 13 d k (Or.inr (Or.inr (Or.inr (Or.inl ⟨rfl, h1, h2⟩))))
  have m14 : ∀ d k, d < 13 → k < 3 → M' 14 j' d k = M 14 j d k := fun d k h1 h2 => hM 14 d k (Or.inr (Or.inr (Or.inr (Or.inr ⟨rfl, h1, h2⟩))))
  refine ⟨?_, ?_, ?_, ?_, ?_, ?_, ?_, ?_⟩
  · unfold r_A
    rw [m7 5 (by decide) (by decide), m7 6 (by decide) (by decide), m7 7 (by decide) (by decide), m7 8 (by decide) (by decide), m7 9 (by decide) (by decide), m14 12 0 (by decide) (by decide), m14 12 1 (by decide) (by decide), m14 12 2 (by decide) (by decide), m11 0 (by decide), m11 1 (by decide), m11 2 (by decide), m11 3 (by decide), m11 4 (by decide), hS 0 (by omega), hS 1 (by omega), hS 2 (by omega), hS 3 (by omega), hS 4 (by omega), hS 5 (by omega), hS 6 (by omega), hS 7 (by omega), hS 8 (by omega), hS 9 (by omega), hS 10 (by omega), hS 11 (by omega), hS 12 (by omega)]
    exact hA
  · refine ⟨fun d hd k hk => ?_, fun d h1 h2 k hk => ?_⟩
    · rw [m12 d k (by omega) hk, hS _ (by omega)]
      exact hD.1 d hd k hk
    · rw [m12 d k h2 hk]
      exact hD.2 d h1 h2 k hk
  · intro c hc
    unfold r_L1
    rw [m13 c 0 hc (by decide), m13 c 1 hc (by decide), m13 c 2 hc (by decide), m13 c 3 hc (by decide), m13 c 4 hc (by decide), m13 c 5 hc (by decide), hS _ (by omega), hS _ (by omega), hS _ (by omega), hS _ (by omega), hS _ (by omega), hS _ (by omega)]
    exact hL c hc
  · intro b hb
    rw [m14 b 0 (by omega) (by decide), m14 b 1 (by omega) (by decide), m14 b 2 (by omega) (by decide), hS _ (by omega), hS _ (by omega), hS _ (by omega)]
    exact hG b hb
  · refine ⟨fun c hc => ?_, fun d hd => ?_⟩
    · rw [m13 c 1 hc (by decide)]
      exact hO.1 c hc
    · rw [m12 d 2 (by omega) (by decide)]
      rcases hO.2 d hd with h | ⟨c, h1, h2, h3⟩
      · exact Or.inl h
      · exact Or.inr ⟨c, h1, h2, by rw [m13 c 1 h1 (by decide)]; exact h3⟩
  · unfold r_V
    rw [m7 7 (by decide) (by decide), m7 8 (by decide) (by decide), m11 0 (by decide), m11 1 (by decide), m11 2 (by decide), m11 3 (by decide), m11 4 (by decide)]
    exact hV
  · intro c hc
    rw [m13 c 0 hc (by decide)]
    exact hF c hc
  · obtain ⟨g, p, w, l, h1, h2, h3, h4, h5⟩ := hW
    refine ⟨g, p, w, l, fun d hd => ?_, fun b hb => ?_, by rw [m14 12 0 (by decide) (by decide)]; exact h3, h4, h5⟩
    · rw [m12 d 3 (by omega) (by decide), m12 d 4 (by omega) (by decide)]
      exact h1 d hd
    · rw [m14 b 0 (by omega) (by decide)]
      exact h2 b hb
def r_slot (M K : m_Mem) (t : Nat) : Prop := M 3 0 0 t = K 19 0 0 t ∧ (M 3 0 0 t ≠ 0 → ∃ N B, r_C M (1 + t) (fun i => K 18 0 0 (173 * t + i)) N B)
def r_past (M K : m_Mem) (i : Nat) : Prop := ∃ N B, r_C M (3 + f_q M i) (fun x => K 17 0 0 (173 * i + x)) N B
def r_bool (M : m_Mem) (j : Nat) : Prop := ∀ c, c < 10 → m_nok 1 (M 13 j c 3) = true
def r_txt (M K : m_Mem) (L : Nat) : Prop := (L ≤ 60 ∧ M 5 0 0 1 = nI L ∧ K 15 0 0 7 = nI L) ∧ (∀ i, i < L → M 6 0 0 i = K 20 0 0 i) ∧ (∀ i, i < 60 → m_nok 2 (M 6 0 0 i) = true)
def r_sta (M : m_Mem) : Prop := (∀ j, j < 5 → M 24 0 0 j = m_s24 j) ∧ (∀ j, j < 5 → M 25 0 0 j = m_s25 j)
def r_T (M K : m_Mem) (n N B L : Nat) : Prop :=
  (n ≤ 6 ∧ M 1 0 0 5 = nI n ∧ K 15 0 0 4 = nI n) ∧ (f_Q M ∧ ∀ i k, i < 6 → k < 6 → f_q M i = f_q M k → i = k) ∧ (∀ j, j < 9 → r_bool M j) ∧ r_C M 0 (K 16 0 0) N B ∧ (∀ t, t < 2 → r_slot M K t) ∧ (∀ i, i < n → r_past M K i) ∧ r_txt M K L ∧ r_sta M
section STORE
variable {M M' K K' : m_Mem} {n N B N' B' L : Nat}
theorem r_bool_C {j : Nat} {S : Nat → Int32} (h : r_C M j S N B) : r_bool M j := by
  intro c hc
  rcases (h.2.2.1 c hc).2.2.2.2.2.1 with e | e <;> rw [e] <;> decide
theorem f_q_cg (h : ∀ i, M' 4 0 0 i = M 4 0 0 i) (i : Nat) : f_q M' i = f_q M i := by
  unfold f_q
  rw [h]
/-- the same in other memories -/
theorem r_Tcg (h : r_T M K n N B L) (hM : ∀ a b c k, (a < 15 ∨ a = 24 ∨ a = 25) → M' a b c k = M a b c k) (hK : ∀ a b c k, 15 ≤ a → a < 21 → ¬ (a = 15 ∧ k ≠ 4 ∧ k ≠ 7) → K' a b c k = K a b c k) : r_T M' K' n N B L := by
  obtain ⟨t1, t2, t3, t4, t5, t6, t7, t8⟩ := h
  have q := f_q_cg (M := M) (M' := M') (fun i => hM 4 0 0 i (by omega))
  refine ⟨?_, ?_, ?_, ?_, ?_, ?_, ?_, ?_⟩
  · rw [hM 1 0 0 5 (by omega), hK 15 0 0 4 (by omega) (by omega) (by omega)]
    exact t1
  · refine ⟨fun i hi => ?_, fun i k hi hk e => ?_⟩
    · rw [q, hM 4 0 0 i (by omega)]
      exact t2.1 i hi
    · rw [q, q] at e
      exact t2.2 i k hi hk e
  · intro j hj c hc
    rw [hM 13 j c 3 (by omega)]
    exact t3 j hj c hc
  · exact r_cg2 t4 (fun a c k hd => hM a 0 c k (by unfold r_dm at hd; omega)) (fun i hi => hK 16 0 0 i (by omega) (by omega) (by omega))
  · intro t ht
    obtain ⟨s1, s2⟩ := t5 t ht
    refine ⟨by rw [hM 3 0 0 t (by omega), hK 19 0 0 t (by omega) (by omega) (by omega)]; exact s1, fun q2 => ?_⟩
    rw [hM 3 0 0 t (by omega)] at q2
    obtain ⟨N1, B1, s3⟩ := s2 q2
    exact ⟨N1, B1, r_cg2 s3 (fun a c k hd => hM a (1 + t) c k (by unfold r_dm at hd; omega)) (fun i hi => hK 18 0 0 (173 * t + i) (by omega) (by omega) (by omega))⟩
  · intro i hi
    obtain ⟨N1, B1, s3⟩ := t6 i hi
    refine ⟨N1, B1, ?_⟩
    rw [q]
    exact r_cg2 s3 (fun a c k hd => hM a (3 + f_q M i) c k (by unfold r_dm at hd; omega)) (fun x hx => hK 17 0 0 (173 * i + x) (by omega) (by omega) (by omega))
  · obtain ⟨⟨x1, x2, x3⟩, x4, x5⟩ := t7
    refine ⟨⟨x1, ?_, ?_⟩, fun i hi => ?_, fun i hi => ?_⟩
    · rw [hM 5 0 0 1 (by omega)]
      exact x2
    · rw [hK 15 0 0 7 (by omega) (by omega) (by omega)]
      exact x3
    · rw [hM 6 0 0 i (by omega), hK 20 0 0 i (by omega) (by omega) (by omega)]
      exact x4 i hi
    · rw [hM 6 0 0 i (by omega)]
      exact x5 i hi
  · refine ⟨fun j hj => ?_, fun j hj => ?_⟩
    · rw [hM 24 0 0 j (by omega)]
      exact t8.1 j hj
    · rw [hM 25 0 0 j (by omega)]
      exact t8.2 j hj
/-- the present camp changes, and nothing else -/
theorem r_Tnow (h : r_T M K n N B L) (hC : r_C M' 0 (K' 16 0 0) N' B') (hM : ∀ a b c k, (b ≠ 0 ∨ a < 7 ∨ 24 ≤ a) → M' a b c k = M a b c k) (hK : ∀ a b c k, 15 ≤ a → a < 21 → a ≠ 16 → ¬ (a = 15 ∧ k ≠ 4 ∧ k ≠ 7) → K' a b c k = K a b c k) : r_T M' K' n N' B' L := by
  obtain ⟨t1, t2, t3, t4, t5, t6, t7, t8⟩ := h
  have q := f_q_cg (M := M) (M' := M') (fun i => hM 4 0 0 i (by omega))
  refine ⟨?_, ?_, ?_, hC, ?_, ?_, ?_, ?_⟩
  · rw [hM 1 0 0 5 (by omega), hK 15 0 0 4 (by omega) (by omega) (by omega) (by omega)]
    exact t1
  · refine ⟨fun i hi => ?_, fun i k hi hk e => ?_⟩
    · rw [q, hM 4 0 0 i (by omega)]
      exact t2.1 i hi
    · rw [q, q] at e
      exact t2.2 i k hi hk e
  · intro j hj
    by_cases j0 : j = 0
    · subst j0
      exact r_bool_C hC
    · intro c hc
      rw [hM 13 j c 3 (by omega)]
      exact t3 j hj c hc
  · intro t ht
    obtain ⟨s1, s2⟩ := t5 t ht
    refine ⟨by rw [hM 3 0 0 t (by omega), hK 19 0 0 t (by omega) (by omega) (by omega) (by omega)]; exact s1, fun q2 => ?_⟩
    rw [hM 3 0 0 t (by omega)] at q2
    obtain ⟨N1, B1, s3⟩ := s2 q2
    exact ⟨N1, B1, r_cg2 s3 (fun a c k hd => hM a (1 + t) c k (by omega)) (fun i hi => hK 18 0 0 (173 * t + i) (by omega) (by omega) (by omega) (by omega))⟩
  · intro i hi
    obtain ⟨N1, B1, s3⟩ := t6 i hi
    refine ⟨N1, B1, ?_⟩
    rw [q]
    exact r_cg2 s3 (fun a c k hd => hM a (3 + f_q M i) c k (by omega)) (fun x hx => hK 17 0 0 (173 * i + x) (by omega) (by omega) (by omega) (by omega))
  · obtain ⟨⟨x1, x2, x3⟩, x4, x5⟩ := t7
    refine ⟨⟨x1, ?_, ?_⟩, fun i hi => ?_, fun i hi => ?_⟩
    · rw [hM 5 0 0 1 (by omega)]
      exact x2
    · rw [hK 15 0 0 7 (by omega) (by omega) (by omega) (by omega)]
      exact x3
    · rw [hM 6 0 0 i (by omega), hK 20 0 0 i (by omega) (by omega) (by omega) (by omega)]
      exact x4 i hi
    · rw [hM 6 0 0 i (by omega)]
      exact x5 i hi
  · refine ⟨fun j hj => ?_, fun j hj => ?_⟩
    · rw [hM 24 0 0 j (by omega)]
      exact t8.1 j hj
    · rw [hM 25 0 0 j (by omega)]
      exact t8.2 j hj
-- copies
theorem f_blk_at (M : m_Mem) (a b b2 N K a' b' c' k' : Nat) : f_blk M a b b2 N K a' b' c' k' = if a' = a ∧ b' = b ∧ c' < N ∧ k' < K then M a b2 c' k' else M a' b' c' k' := rfl
theorem f_blk_n {M : m_Mem} {a b b2 N K a' b' c' k' : Nat} (h : ¬ (a' = a ∧ b' = b ∧ c' < N ∧ k' < K)) : f_blk M a b b2 N K a' b' c' k' = M a' b' c' k' := if_neg h
theorem f_blk_i {M : m_Mem} {a b b2 N K c' k' : Nat} (h : c' < N ∧ k' < K) : f_blk M a b b2 N K a b c' k' = M a b2 c' k' := if_pos ⟨rfl, rfl, h⟩
theorem m_cpy_n {M : m_Mem} {a b c b' c' a1 b1 c1 k : Nat} (h : ¬ (a1 = a ∧ b1 = b ∧ c1 = c ∧ k < 5)) : m_cpy M a b c b' c' a1 b1 c1 k = M a1 b1 c1 k := by rw [m_cpy_at, if_neg h]
theorem m_cpy_i {M : m_Mem} {a b c b' c' k : Nat} (h : k < 5) : m_cpy M a b c b' c' a b c k = M a b' c' k := by rw [m_cpy_at, if_pos ⟨rfl, rfl, rfl, h⟩]
theorem f_cm_i {j j2 : Nat} (hne : j ≠ j2) {a c k : Nat} (h : r_dm a c k) : f_cm M j j2 a j c k = M a j2 c k := by
  unfold f_cm
  rcases h with ⟨rfl, rfl, h1, h2⟩ | ⟨rfl, rfl, h1⟩ | ⟨rfl, h1, h2⟩ | ⟨rfl, h1, h2⟩ | ⟨rfl, h1, h2⟩
  · have hk : k = 5 ∨ k = 6 ∨ k = 7 ∨ k = 8 ∨ k = 9 := by omega
    rcases hk with rfl | rfl | rfl | rfl | rfl <;> simp (disch := omega) only [m_set_n, m_set_i]
  · simp (disch := omega) only [m_set_n, m_cpy_i, m_cp_o, f_blk_n]
  · simp (disch := omega) only [m_set_n, m_cpy_n, m_cp_o, f_blk_n, f_blk_i]
  · simp (disch := omega) only [m_set_n, m_cpy_n, m_cp_o, f_blk_n, f_blk_i]
  · by_cases e : c = 12
    · subst e
      simp (disch := omega) only [m_set_n, m_cpy_n, m_cp_i, f_blk_n]
    · simp (disch := omega) only [m_set_n, m_cpy_n, m_cp_o, f_blk_n, f_blk_i]
theorem f_cm_n {j j2 : Nat} {a b c k : Nat} (h : a < 7 ∨ a = 8 ∨ a = 9 ∨ a = 10 ∨ 15 ≤ a) : f_cm M j j2 a b c k = M a b c k := by
  unfold f_cm
  simp (disch := omega) only [m_set_n, m_cpy_n, m_cp_o, f_blk_n]
theorem k_bl_i {a o a2 o2 i k : Nat} (h : o ≤ k ∧ k < o + i) : k_bl K a o a2 o2 i a 0 0 k = K a2 0 0 (o2 + (k - o)) := if_pos ⟨rfl, rfl, rfl, h⟩
theorem k_bl_n {a o a2 o2 i a' b c k : Nat} (h : ¬ (a' = a ∧ o ≤ k ∧ k < o + i)) : k_bl K a o a2 o2 i a' b c k = K a' b c k := if_neg (fun q => h ⟨q.1, q.2.2.2⟩)
/-- how many are saved then -/
def r_n (n : Nat) : Nat := if n < 6 then n + 1 else 6
theorem o_save (h : r_T M K n N B L) : r_T (f_sv M n) (k_sv K n) (r_n n) N B L := by
  obtain ⟨t1, t2, t3, t4, t5, t6, t7, t8⟩ := h
  by_cases hn : n < 6
  · have eM : f_sv M n = m_set (f_cm M (3 + f_q M n) 0) 1 0 0 5 (nI (n + 1)) := if_pos hn
    have eK : k_sv K n = m_set (k_bl K 17 (173 * n) 16 0 173) 15 0 0 4 (nI (n + 1)) := if_neg (by omega)
    have en : r_n n = n + 1 := if_pos hn
    rw [eM, eK, en]
    have hq := (t2.1 n hn).1
    have q4 : ∀ i, m_set (f_cm M (3 + f_q M n) 0) 1 0 0 5 (nI (n + 1)) 4 0 0 i = M 4 0 0 i := fun i => by rw [m_set_n (by omega), f_cm_n (by omega)]
    have q := f_q_cg (M := M) (M' := m_set (f_cm M (3 + f_q M n) 0) 1 0 0 5 (nI (n + 1))) q4
    have oC : ∀ j a c k, j ≠ 3 + f_q M n → r_dm a c k → m_set (f_cm M (3 + f_q M n) 0) 1 0 0 5 (nI (n + 1)) a j c k = M a j c k := fun j a c k hj hd => by
      unfold r_dm at hd
      rw [m_set_n (by omega), f_cm_o _ _ _ _ _ _ _ hj]
    have nC : ∀ a c k, r_dm a c k → m_set (f_cm M (3 + f_q M n) 0) 1 0 0 5 (nI (n + 1)) a (3 + f_q M n) c k = M a 0 c k := fun a c k hd => by
      have hd2 := hd
      unfold r_dm at hd2
      rw [m_set_n (by omega), f_cm_i (by omega) hd]
    refine ⟨?_, ?_, ?_, ?_, ?_, ?_, ?_, ?_⟩
    · exact ⟨by omega, m_set_i, m_set_i⟩
    · refine ⟨fun i hi => ?_, fun i k hi hk e => ?_⟩
      · rw [q, q4]
        exact t2.1 i hi
      · rw [q, q] at e
        exact t2.2 i k hi hk e
    · intro j hj c hc
      by_cases e : j = 3 + f_q M n
      · subst e
        rw [nC 13 c 3 (Or.inr (Or.inr (Or.inr (Or.inl ⟨rfl, hc, by decide⟩))))]
        exact t3 0 (by decide) c hc
      · rw [oC j 13 c 3 e (Or.inr (Or.inr (Or.inr (Or.inl ⟨rfl, hc, by decide⟩))))]
        exact t3 j hj c hc
    · exact r_cg2 t4 (fun a c k hd => oC 0 a c k (by omega) hd) (fun i hi => by rw [m_set_n (by omega), k_bl_n (by omega)])
    · intro t ht
      obtain ⟨s1, s2⟩ := t5 t ht
      have e3 : m_set (f_cm M (3 + f_q M n) 0) 1 0 0 5 (nI (n + 1)) 3 0 0 t = M 3 0 0 t := by rw [m_set_n (by omega), f_cm_n (by omega)]
      refine ⟨by rw [e3, m_set_n (by omega), k_bl_n (by omega)]; exact s1, fun q2 => ?_⟩
      rw [e3] at q2
      obtain ⟨N1, B1, s3⟩ := s2 q2
      exact ⟨N1, B1, r_cg2 s3 (fun a c k hd => oC (1 + t) a c k (by omega) hd) (fun i hi => by rw [m_set_n (by omega), k_bl_n (by omega)])⟩
    · intro i hi
      by_cases e : i = n
      · subst e
        refine ⟨N, B, ?_⟩
        rw [q]
        refine r_cg2 t4 nC (fun x hx => ?_)
        rw [m_set_n (by omega), k_bl_i (by omega)]
        exact congrArg (K 16 0 0) (by omega)
      · obtain ⟨N1, B1, s3⟩ := t6 i (by omega)
        refine ⟨N1, B1, ?_⟩
        rw [q]
        refine r_cg2 s3 (fun a c k hd => oC (3 + f_q M i) a c k (fun e2 => e (t2.2 i n (by omega) hn (by omega))) hd) (fun x hx => ?_)
        rw [m_set_n (by omega), k_bl_n (by omega)]
    · obtain ⟨⟨x1, x2, x3⟩, x4, x5⟩ := t7
      refine ⟨⟨x1, ?_, ?_⟩, fun i hi => ?_, fun i hi => ?_⟩
      · rw [m_set_n (by omega), f_cm_n (by omega)]
        exact x2
      · rw [m_set_n (by omega), k_bl_n (by omega)]
        exact x3
      · rw [m_set_n (by omega), f_cm_n (by omega), m_set_n (by omega), k_bl_n (by omega)]
        exact x4 i hi
      · rw [m_set_n (by omega), f_cm_n (by omega)]
        exact x5 i hi
    · refine ⟨fun j hj => ?_, fun j hj => ?_⟩
      · rw [m_set_n (by omega), f_cm_n (by omega)]
        exact t8.1 j hj
      · rw [m_set_n (by omega), f_cm_n (by omega)]
        exact t8.2 j hj
  · have n6 : n = 6 := by omega
    subst n6
    have eM : f_sv M 6 = m_set (f_cm (m_set (f_rot M) 1 0 0 5 5) (3 + f_q M 0) 0) 1 0 0 5 6 := if_neg (by decide)
    have eK : k_sv K 6 = m_set (k_bl (m_set (k_bl K 17 0 17 173 865) 15 0 0 4 (nI 5)) 17 865 16 0 173) 15 0 0 4 (nI 6) := if_pos rfl
    have en : r_n 6 = 6 := rfl
    rw [eM, eK, en]
    have hq := (t2.1 0 (by decide)).1
    have rN : ∀ a b c k, a ≠ 4 → f_rot M a b c k = M a b c k := fun a b c k h => if_neg (fun q => h q.1)
    have rI : ∀ k, k < 6 → f_rot M 4 0 0 k = M 4 0 0 (if k = 5 then 0 else k + 1) := fun k h => if_pos ⟨rfl, rfl, rfl, h⟩
    generalize hM1 : m_set (f_cm (m_set (f_rot M) 1 0 0 5 5) (3 + f_q M 0) 0) 1 0 0 5 6 = M1
    have q4 : ∀ i, i < 6 → M1 4 0 0 i = M 4 0 0 (if i = 5 then 0 else i + 1) := fun i hi => by rw [← hM1, m_set_n (by omega), f_cm_n (by omega), m_set_n (by omega), rI i hi]
    have q : ∀ i, i < 6 → f_q M1 i = f_q M (if i = 5 then 0 else i + 1) := fun i hi => by
      unfold f_q
      rw [q4 i hi]
    have oC : ∀ j a c k, j ≠ 3 + f_q M 0 → r_dm a c k → M1 a j c k = M a j c k := fun j a c k hj hd => by
      unfold r_dm at hd
      rw [← hM1, m_set_n (by omega), f_cm_o _ _ _ _ _ _ _ hj, m_set_n (by omega), rN _ _ _ _ (by omega)]
    have nC : ∀ a c k, r_dm a c k → M1 a (3 + f_q M 0) c k = M a 0 c k := fun a c k hd => by
      have hd2 := hd
      unfold r_dm at hd2
      rw [← hM1, m_set_n (by omega), f_cm_i (by omega) hd, m_set_n (by omega), rN _ _ _ _ (by omega)]
    have nO : ∀ a b c k, (a < 7 ∨ 15 ≤ a) → a ≠ 4 → a ≠ 1 → M1 a b c k = M a b c k := fun a b c k h1 h4 h5 => by rw [← hM1, m_set_n (by omega), f_cm_n (by omega), m_set_n (by omega), rN _ _ _ _ h4]
    refine ⟨?_, ?_, ?_, ?_, ?_, ?_, ?_, ?_⟩
    · exact ⟨by omega, by rw [← hM1, m_set_i]; rfl, m_set_i⟩
    · refine ⟨fun i hi => ?_, fun i k hi hk e => ?_⟩
      · rw [q i hi, q4 i hi]
        exact t2.1 _ (by split <;> omega)
      · rw [q i hi, q k hk] at e
        have := t2.2 _ _ (by split <;> omega) (by split <;> omega) e
        split at this <;> split at this <;> omega
    · intro j hj c hc
      by_cases e : j = 3 + f_q M 0
      · subst e
        rw [nC 13 c 3 (Or.inr (Or.inr (Or.inr (Or.inl ⟨rfl, hc, by decide⟩))))]
        exact t3 0 (by decide) c hc
      · rw [oC j 13 c 3 e (Or.inr (Or.inr (Or.inr (Or.inl ⟨rfl, hc, by decide⟩))))]
        exact t3 j hj c hc
    · exact r_cg2 t4 (fun a c k hd => oC 0 a c k (by omega) hd) (fun i hi => by rw [m_set_n (by omega), k_bl_n (by omega), m_set_n (by omega), k_bl_n (by omega)])
    · intro t ht
      obtain ⟨s1, s2⟩ := t5 t ht
      have e3 : M1 3 0 0 t = M 3 0 0 t := nO _ _ _ _ (by omega) (by omega) (by omega)
      refine ⟨by rw [e3, m_set_n (by omega), k_bl_n (by omega), m_set_n (by omega), k_bl_n (by omega)]; exact s1, fun q2 => ?_⟩
      rw [e3] at q2
      obtain ⟨N1, B1, s3⟩ := s2 q2
      exact ⟨N1, B1, r_cg2 s3 (fun a c k hd => oC (1 + t) a c k (by omega) hd) (fun i hi => by rw [m_set_n (by omega), k_bl_n (by omega), m_set_n (by omega), k_bl_n (by omega)])⟩
    · intro i hi
      by_cases e : i = 5
      · subst e
        refine ⟨N, B, ?_⟩
        rw [q 5 hi]
        refine r_cg2 t4 nC (fun x hx => ?_)
        rw [m_set_n (by omega), k_bl_i (by omega), m_set_n (by omega), k_bl_n (by omega)]
        exact congrArg (K 16 0 0) (by omega)
      · obtain ⟨N1, B1, s3⟩ := t6 (i + 1) (by omega)
        refine ⟨N1, B1, ?_⟩
        rw [q i hi, if_neg e]
        refine r_cg2 s3 (fun a c k hd => oC (3 + f_q M (i + 1)) a c k (fun e2 => by have := t2.2 (i + 1) 0 (by omega) (by omega) (by omega); omega) hd) (fun x hx => ?_)
        rw [m_set_n (by omega), k_bl_n (by omega), m_set_n (by omega), k_bl_i (by omega)]
        exact congrArg (K 17 0 0) (by omega)
    · obtain ⟨⟨x1, x2, x3⟩, x4, x5⟩ := t7
      refine ⟨⟨x1, ?_, ?_⟩, fun i hi => ?_, fun i hi => ?_⟩
      · rw [nO _ _ _ _ (by omega) (by omega) (by omega)]
        exact x2
      · rw [m_set_n (by omega), k_bl_n (by omega), m_set_n (by omega), k_bl_n (by omega)]
        exact x3
      · rw [nO _ _ _ _ (by omega) (by omega) (by omega), m_set_n (by omega), k_bl_n (by omega), m_set_n (by omega), k_bl_n (by omega)]
        exact x4 i hi
      · rw [nO _ _ _ _ (by omega) (by omega) (by omega)]
        exact x5 i hi
    · refine ⟨fun j hj => ?_, fun j hj => ?_⟩
      · rw [nO _ _ _ _ (by omega) (by omega) (by omega)]
        exact t8.1 j hj
      · rw [nO _ _ _ _ (by omega) (by omega) (by omega)]
        exact t8.2 j hj
end STORE
