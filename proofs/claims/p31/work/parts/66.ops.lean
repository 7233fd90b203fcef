/-! WHAT CHANGES A CAMP keeps the two the same. -/
section CG
variable {M M' : m_Mem} {j : Nat} {S S' : Nat → Int32} {N B : Nat}
theorem r_cgA (h : r_A M j S N B) (h7 : ∀ k, M' 7 j 0 k = M 7 j 0 k) (h14 : ∀ k, k < 3 → M' 14 j 12 k = M 14 j 12 k) (h11 : ∀ k, k < 5 → M' 11 j 0 k = M 11 j 0 k) (hS : ∀ i, i < 13 → S' i = S i) : r_A M' j S' N B := by
  unfold r_A
  rw [h7, h7, h7, h7, h7, h14 0 (by decide), h14 1 (by decide), h14 2 (by decide), h11 0 (by decide), h11 1 (by decide), h11 2 (by decide), h11 3 (by decide), h11 4 (by decide), hS 0 (by decide), hS 1 (by decide), hS 2 (by decide), hS 3 (by decide), hS 4 (by decide), hS 5 (by decide), hS 6 (by decide), hS 7 (by decide), hS 8 (by decide), hS 9 (by decide), hS 10 (by decide), hS 11 (by decide), hS 12 (by decide)]
  exact h
theorem r_cgD (h : r_D M j S N) (hN : N ≤ 8) (hM : ∀ d k, d < 8 → k < 8 → M' 12 j d k = M 12 j d k) (hS : ∀ d k, d < 8 → k < 8 → S' (13 + 8 * d + k) = S (13 + 8 * d + k)) : r_D M' j S' N :=
  ⟨fun d hd k hk => by rw [hM d k (by omega) hk, hS d k (by omega) hk]; exact h.1 d hd k hk, fun d h1 h2 k hk => by rw [hM d k h2 hk]; exact h.2 d h1 h2 k hk⟩
theorem r_cgL1 {c : Nat} (h : r_L1 M j S c) (hM : ∀ k, k < 6 → M' 13 j c k = M 13 j c k) (hS : ∀ k, k < 6 → S' (77 + 6 * c + k) = S (77 + 6 * c + k)) : r_L1 M' j S' c := by
  unfold r_L1
  rw [hM 0 (by decide), hM 1 (by decide), hM 2 (by decide), hM 3 (by decide), hM 4 (by decide), hM 5 (by decide), hS 0 (by decide), hS 1 (by decide), hS 2 (by decide), hS 3 (by decide), hS 4 (by decide), hS 5 (by decide)]
  exact h
theorem r_cgL (h : r_L M j S) (hM : ∀ c k, c < 10 → k < 6 → M' 13 j c k = M 13 j c k) (hS : ∀ c k, c < 10 → k < 6 → S' (77 + 6 * c + k) = S (77 + 6 * c + k)) : r_L M' j S' := fun c hc => r_cgL1 (h c hc) (fun k hk => hM c k hc hk) (fun k hk => hS c k hc hk)
theorem r_cgG (h : r_G M j S) (hM : ∀ b k, b < 12 → k < 3 → M' 14 j b k = M 14 j b k) (hS : ∀ b k, b < 12 → k < 3 → S' (137 + 3 * b + k) = S (137 + 3 * b + k)) : r_G M' j S' := by
  intro b hb
  rw [hM b 0 hb (by decide), hM b 1 hb (by decide), hM b 2 hb (by decide), hS b 0 hb (by decide), hS b 1 hb (by decide), hS b 2 hb (by decide)]
  exact h b hb
theorem r_cgO (h : r_O M j N) (h13 : ∀ c, c < 10 → M' 13 j c 1 = M 13 j c 1) (h12 : ∀ d, d < N → M' 12 j d 2 = M 12 j d 2) : r_O M' j N := by
  refine ⟨fun c hc => ?_, fun d hd => ?_⟩
  · rw [h13 c hc]
    exact h.1 c hc
  · rw [h12 d hd]
    rcases h.2 d hd with h | ⟨c, h1, h2, h3⟩
    · exact Or.inl h
    · exact Or.inr ⟨c, h1, h2, by rw [h13 c h1]; exact h3⟩
theorem r_cgV (h : r_V M j) (h7 : ∀ k, 7 ≤ k → k < 9 → M' 7 j 0 k = M 7 j 0 k) (h11 : ∀ k, k < 5 → M' 11 j 0 k = M 11 j 0 k) : r_V M' j := by
  unfold r_V
  rw [h7 7 (by decide) (by decide), h7 8 (by decide) (by decide), h11 0 (by decide), h11 1 (by decide), h11 2 (by decide), h11 3 (by decide), h11 4 (by decide)]
  exact h
theorem r_cgF (h : r_F M j) (hM : ∀ c, c < 10 → M' 13 j c 0 = M 13 j c 0) : r_F M' j := fun c hc => by rw [hM c hc]; exact h c hc
theorem r_cgW (h : r_W M j N B) (h12 : ∀ d, d < N → M' 12 j d 3 = M 12 j d 3 ∧ M' 12 j d 4 = M 12 j d 4) (h14 : ∀ b, b < B → M' 14 j b 0 = M 14 j b 0) (hl : M' 14 j 12 0 = M 14 j 12 0) : r_W M' j N B := by
  obtain ⟨g, p, w, l, h1, h2, h3, h4, h5⟩ := h
  refine ⟨g, p, w, l, fun d hd => ?_, fun b hb => ?_, by rw [hl]; exact h3, h4, h5⟩
  · rw [(h12 d hd).1, (h12 d hd).2]
    exact h1 d hd
  · rw [h14 b hb]
    exact h2 b hb
end CG
section OPS
variable {M K : m_Mem} {N B : Nat}
theorem k_dg_at (K : m_Mem) (d : Nat) : ∀ n i, k_dg K d n 16 0 0 i = if 13 + 8 * d ≤ i ∧ i < 13 + 8 * d + n then (if i = 13 + 8 * d + 2 then -1 else 0) else K 16 0 0 i
  | 0, i => by rw [if_neg (by omega)]; rfl
  | n + 1, i => by
    show m_set (k_dg K d n) 16 0 0 (13 + 8 * d + n) (if n = 2 then -1 else 0) 16 0 0 i = _
    by_cases e : i = 13 + 8 * d + n
    · subst e
      rw [m_set_i, if_pos (c := 13 + 8 * d ≤ 13 + 8 * d + n ∧ 13 + 8 * d + n < 13 + 8 * d + (n + 1)) (by omega)]
      by_cases e2 : n = 2
      · rw [if_pos e2, if_pos (c := 13 + 8 * d + n = 13 + 8 * d + 2) (by omega)]
      · rw [if_neg e2, if_neg (c := 13 + 8 * d + n = 13 + 8 * d + 2) (by omega)]
    · rw [m_set_n (by omega), k_dg_at K d n i]
      by_cases e2 : 13 + 8 * d ≤ i ∧ i < 13 + 8 * d + n
      · rw [if_pos e2, if_pos (c := 13 + 8 * d ≤ i ∧ i < 13 + 8 * d + (n + 1)) (by omega)]
      · rw [if_neg e2, if_neg (c := 13 + 8 * d ≤ i ∧ i < 13 + 8 * d + (n + 1)) (by omega)]
theorem k_dg_n {d n i : Nat} (h : ¬ (13 + 8 * d ≤ i ∧ i < 13 + 8 * d + n)) : k_dg K d n 16 0 0 i = K 16 0 0 i := by rw [k_dg_at, if_neg h]
theorem o_digger (h : r_C M 0 (K 16 0 0) N B) (hN : N < 8) : r_C (m_set M 7 0 0 5 (nI (N + 1))) 0 ((m_set (k_dg K N 8) 16 0 0 1 (nI (N + 1))) 16 0 0) (N + 1) B := by
  obtain ⟨hA, hD, hL, hG, hO, hV, hF, hW⟩ := h
  obtain ⟨hN9, hB, h0, hl, hs⟩ := hA
  refine ⟨?_, ?_, ?_, ?_, ?_, ?_, ?_, ?_⟩
  · unfold r_A
    simp (disch := omega) only [m_set_n, m_set_i, k_dg_n]
    exact ⟨⟨hN, by trivial, by trivial⟩, hB, h0, hl, hs⟩
  · refine ⟨fun d hd k hk => ?_, fun d h1 h2 k hk => ?_⟩
    · by_cases e : d = N
      · subst e
        rw [m_set_n (by omega), m_set_n (by omega), hD.2 d (Nat.le_refl _) hN k hk, k_dg_at, if_pos (c := 13 + 8 * d ≤ 13 + 8 * d + k ∧ 13 + 8 * d + k < 13 + 8 * d + 8) (by omega)]
        by_cases e2 : k = 2
        · rw [if_pos e2, if_pos (c := 13 + 8 * d + k = 13 + 8 * d + 2) (by omega)]
        · rw [if_neg e2, if_neg (c := 13 + 8 * d + k = 13 + 8 * d + 2) (by omega)]
      · simp (disch := omega) only [m_set_n, m_set_i, k_dg_n]
        exact hD.1 d (by omega) k hk
    · rw [m_set_n (by omega)]
      exact hD.2 d (by omega) h2 k hk
  · exact r_cgL hL (fun c k _ _ => by simp (disch := omega) only [m_set_n, m_set_i]) (fun c k _ _ => by simp (disch := omega) only [m_set_n, m_set_i, k_dg_n])
  · exact r_cgG hG (fun c k _ _ => by simp (disch := omega) only [m_set_n, m_set_i]) (fun c k _ _ => by simp (disch := omega) only [m_set_n, m_set_i, k_dg_n])
  · refine ⟨fun c hc => ?_, fun d hd => ?_⟩
    · rw [m_set_n (by omega)]
      rcases hO.1 c hc with h | ⟨d, h1, h2⟩
      · exact Or.inl h
      · exact Or.inr ⟨d, by omega, h2⟩
    · rw [m_set_n (by omega)]
      by_cases e : d = N
      · subst e
        exact Or.inl (hD.2 d (Nat.le_refl _) hN 2 (by decide))
      · rcases hO.2 d (by omega) with h | ⟨c, h1, h2, h3⟩
        · exact Or.inl h
        · exact Or.inr ⟨c, h1, h2, by rw [m_set_n (by omega)]; exact h3⟩
  · exact r_cgV hV (fun k _ _ => by simp (disch := omega) only [m_set_n, m_set_i]) (fun k _ => by simp (disch := omega) only [m_set_n, m_set_i])
  · exact r_cgF hF (fun c _ => by simp (disch := omega) only [m_set_n, m_set_i])
  · obtain ⟨g, p, w, l, h1, h2, h3, h4, h5⟩ := hW
    refine ⟨v_u g N 0, v_u p N 0, w, l, fun d hd => ?_, fun b hb => ?_, by rw [m_set_n (by omega)]; exact h3, h4, ?_⟩
    · rw [m_set_n (by omega), m_set_n (by omega)]
      by_cases e : d = N
      · subst e
        rw [v_u_i, v_u_i]
        exact ⟨hD.2 d (Nat.le_refl _) hN 3 (by decide), hD.2 d (Nat.le_refl _) hN 4 (by decide), Nat.le_refl _⟩
      · rw [v_u_n g e, v_u_n p e]
        exact h1 d (by omega)
    · rw [m_set_n (by omega)]
      exact h2 b hb
    · show v_s (v_u g N 0) N + v_u g N 0 N = _
      rw [v_u_i, v_cg (g := g) N (fun i hi => v_u_n g (by omega : i ≠ N))]
      exact h5
theorem o_take (h : r_C M 0 (K 16 0 0) N B) {d c : Nat} (hd : d < N) (hc : c < 10) (hf : M 13 0 c 1 = -1) : r_C (f_give (m_set M 12 0 d 2 (nI c)) 0 c (nI d)) 0 ((k_st K d c) 16 0 0) N B := by
  obtain ⟨hA, hD, hL, hG, hO, hV, hF, hW⟩ := h
  have hN := hA.1.1
  unfold f_give k_st
  refine ⟨?_, ?_, ?_, ?_, ?_, ?_, ?_, ?_⟩
  · exact r_cgA hA (fun k => by simp (disch := omega) only [m_set_n, m_set_i]) (fun k _ => by simp (disch := omega) only [m_set_n, m_set_i]) (fun k _ => by simp (disch := omega) only [m_set_n, m_set_i]) (fun i _ => by simp (disch := omega) only [m_set_n, m_set_i])
  · refine ⟨fun d' hd' k hk => ?_, fun d' h1 h2 k hk => ?_⟩
    · by_cases e : d' = d ∧ k = 2
      · obtain ⟨rfl, rfl⟩ := e
        simp (disch := omega) only [m_set_n, m_set_i]
      · simp (disch := omega) only [m_set_n, m_set_i]
        exact hD.1 d' hd' k hk
    · simp (disch := omega) only [m_set_n, m_set_i]
      exact hD.2 d' h1 h2 k hk
  · intro c' hc'
    by_cases e : c' = c
    · subst e
      obtain ⟨l0, l1, l2, l4, l5, -⟩ := hL c' hc'
      unfold r_L1
      simp (disch := omega) only [m_set_n, m_set_i]
      exact ⟨l0, by trivial, by trivial, l4, l5, Or.inl (by trivial), fun _ => by trivial, fun _ => by trivial⟩
    · exact r_cgL1 (hL c' hc') (fun k _ => by simp (disch := omega) only [m_set_n, m_set_i]) (fun k _ => by simp (disch := omega) only [m_set_n, m_set_i])
  · exact r_cgG hG (fun c k _ _ => by simp (disch := omega) only [m_set_n, m_set_i]) (fun c k _ _ => by simp (disch := omega) only [m_set_n, m_set_i])
  · refine ⟨fun c' hc' => ?_, fun d' hd' => ?_⟩
    · by_cases e : c' = c
      · subst e
        exact Or.inr ⟨d, hd, by simp (disch := omega) only [m_set_n, m_set_i]⟩
      · simp (disch := omega) only [m_set_n, m_set_i]
        exact hO.1 c' hc'
    · by_cases e : d' = d
      · subst e
        exact Or.inr ⟨c, hc, by simp (disch := omega) only [m_set_n, m_set_i], by simp (disch := omega) only [m_set_n, m_set_i]⟩
      · rcases hO.2 d' hd' with h | ⟨c', h1, h2, h3⟩
        · exact Or.inl (by simp (disch := omega) only [m_set_n, m_set_i]; exact h)
        · have hcc : c' ≠ c := by
            intro q
            rw [q, hf] at h3
            exact nI_m1 (by omega) h3.symm
          exact Or.inr ⟨c', h1, by simp (disch := omega) only [m_set_n, m_set_i]; exact h2, by simp (disch := omega) only [m_set_n, m_set_i]; exact h3⟩
  · exact r_cgV hV (fun k _ _ => by simp (disch := omega) only [m_set_n, m_set_i]) (fun k _ => by simp (disch := omega) only [m_set_n, m_set_i])
  · exact r_cgF hF (fun c _ => by simp (disch := omega) only [m_set_n, m_set_i])
  · exact r_cgW hW (fun d _ => ⟨by simp (disch := omega) only [m_set_n, m_set_i], by simp (disch := omega) only [m_set_n, m_set_i]⟩) (fun b _ => by simp (disch := omega) only [m_set_n, m_set_i]) (by simp (disch := omega) only [m_set_n, m_set_i])
theorem o_free (h : r_C M 0 (K 16 0 0) N B) {d c : Nat} (hd : d < N) (hc : c < 10) (hf : M 13 0 c 1 = nI d) : r_C (f_give (m_set M 12 0 d 2 (-1)) 0 c (-1)) 0 ((k_fr K d c) 16 0 0) N B := by
  obtain ⟨hA, hD, hL, hG, hO, hV, hF, hW⟩ := h
  have hN := hA.1.1
  unfold f_give k_fr
  refine ⟨?_, ?_, ?_, ?_, ?_, ?_, ?_, ?_⟩
  · exact r_cgA hA (fun k => by simp (disch := omega) only [m_set_n, m_set_i]) (fun k _ => by simp (disch := omega) only [m_set_n, m_set_i]) (fun k _ => by simp (disch := omega) only [m_set_n, m_set_i]) (fun i _ => by simp (disch := omega) only [m_set_n, m_set_i])
  · refine ⟨fun d' hd' k hk => ?_, fun d' h1 h2 k hk => ?_⟩
    · by_cases e : d' = d ∧ k = 2
      · obtain ⟨rfl, rfl⟩ := e
        simp (disch := omega) only [m_set_n, m_set_i]
      · simp (disch := omega) only [m_set_n, m_set_i]
        exact hD.1 d' hd' k hk
    · simp (disch := omega) only [m_set_n, m_set_i]
      exact hD.2 d' h1 h2 k hk
  · intro c' hc'
    by_cases e : c' = c
    · subst e
      obtain ⟨l0, l1, l2, l4, l5, -⟩ := hL c' hc'
      unfold r_L1
      simp (disch := omega) only [m_set_n, m_set_i]
      exact ⟨l0, by trivial, by trivial, l4, l5, Or.inl (by trivial), fun _ => by trivial, fun q => absurd rfl q⟩
    · exact r_cgL1 (hL c' hc') (fun k _ => by simp (disch := omega) only [m_set_n, m_set_i]) (fun k _ => by simp (disch := omega) only [m_set_n, m_set_i])
  · exact r_cgG hG (fun c k _ _ => by simp (disch := omega) only [m_set_n, m_set_i]) (fun c k _ _ => by simp (disch := omega) only [m_set_n, m_set_i])
  · refine ⟨fun c' hc' => ?_, fun d' hd' => ?_⟩
    · by_cases e : c' = c
      · subst e
        exact Or.inl (by simp (disch := omega) only [m_set_n, m_set_i])
      · simp (disch := omega) only [m_set_n, m_set_i]
        exact hO.1 c' hc'
    · by_cases e : d' = d
      · subst e
        exact Or.inl (by simp (disch := omega) only [m_set_n, m_set_i])
      · rcases hO.2 d' hd' with h | ⟨c', h1, h2, h3⟩
        · exact Or.inl (by simp (disch := omega) only [m_set_n, m_set_i]; exact h)
        · have hcc : c' ≠ c := by
            intro q
            rw [q, hf] at h3
            exact e ((nI_eq (by omega) (by omega)).mp h3).symm
          exact Or.inr ⟨c', h1, by simp (disch := omega) only [m_set_n, m_set_i]; exact h2, by simp (disch := omega) only [m_set_n, m_set_i]; exact h3⟩
  · exact r_cgV hV (fun k _ _ => by simp (disch := omega) only [m_set_n, m_set_i]) (fun k _ => by simp (disch := omega) only [m_set_n, m_set_i])
  · exact r_cgF hF (fun c _ => by simp (disch := omega) only [m_set_n, m_set_i])
  · exact r_cgW hW (fun d _ => ⟨by simp (disch := omega) only [m_set_n, m_set_i], by simp (disch := omega) only [m_set_n, m_set_i]⟩) (fun b _ => by simp (disch := omega) only [m_set_n, m_set_i]) (by simp (disch := omega) only [m_set_n, m_set_i])
theorem o_vein (h : r_C M 0 (K 16 0 0) N B) {c : Nat} {f : Int32} (hc : c < 10) (hf : 500 ≤ f ∧ f ≤ 1000) : r_C (m_set M 13 0 c 0 f) 0 ((m_set K 16 0 0 (77 + 6 * c + 0) f) 16 0 0) N B := by
  obtain ⟨hA, hD, hL, hG, hO, hV, hF, hW⟩ := h
  have hN := hA.1.1
  refine ⟨?_, ?_, ?_, ?_, ?_, ?_, ?_, ?_⟩
  · exact r_cgA hA (fun k => by simp (disch := omega) only [m_set_n, m_set_i]) (fun k _ => by simp (disch := omega) only [m_set_n, m_set_i]) (fun k _ => by simp (disch := omega) only [m_set_n, m_set_i]) (fun i _ => by simp (disch := omega) only [m_set_n, m_set_i])
  · exact r_cgD hD hN (fun d k _ _ => by simp (disch := omega) only [m_set_n, m_set_i]) (fun d k _ _ => by simp (disch := omega) only [m_set_n, m_set_i])
  · intro c' hc'
    by_cases e : c' = c
    · subst e
      obtain ⟨l0, l1⟩ := hL c' hc'
      unfold r_L1
      simp (disch := omega) only [m_set_n, m_set_i]
      exact ⟨by trivial, l1⟩
    · exact r_cgL1 (hL c' hc') (fun k _ => by simp (disch := omega) only [m_set_n, m_set_i]) (fun k _ => by simp (disch := omega) only [m_set_n, m_set_i])
  · exact r_cgG hG (fun c k _ _ => by simp (disch := omega) only [m_set_n, m_set_i]) (fun c k _ _ => by simp (disch := omega) only [m_set_n, m_set_i])
  · exact r_cgO hO (fun c _ => by simp (disch := omega) only [m_set_n, m_set_i]) (fun d _ => by simp (disch := omega) only [m_set_n, m_set_i])
  · exact r_cgV hV (fun k _ _ => by simp (disch := omega) only [m_set_n, m_set_i]) (fun k _ => by simp (disch := omega) only [m_set_n, m_set_i])
  · intro c' hc'
    by_cases e : c' = c
    · subst e
      rw [m_set_i]
      exact hf
    · rw [m_set_n (by omega)]
      exact hF c' hc'
  · exact r_cgW hW (fun d _ => ⟨by simp (disch := omega) only [m_set_n, m_set_i], by simp (disch := omega) only [m_set_n, m_set_i]⟩) (fun b _ => by simp (disch := omega) only [m_set_n, m_set_i]) (by simp (disch := omega) only [m_set_n, m_set_i])
theorem o_adjust (h : r_C M 0 (K 16 0 0) N B) {v : Int32} (hv : -50 ≤ v ∧ v ≤ 50) : r_C (m_set (m_set M 7 0 0 8 v) 7 0 0 9 0) 0 ((m_set (m_set K 16 0 0 6 v) 16 0 0 7 0) 16 0 0) N B := by
  obtain ⟨hA, hD, hL, hG, hO, hV, hF, hW⟩ := h
  have hN := hA.1.1
  refine ⟨?_, ?_, ?_, ?_, ?_, ?_, ?_, ?_⟩
  · obtain ⟨hN9, hB, h0, hl, hs⟩ := hA
    unfold r_A
    simp (disch := omega) only [m_set_n, m_set_i]
    exact ⟨hN9, hB, ⟨h0.1, by trivial, by trivial⟩, hl, hs⟩
  · exact r_cgD hD hN (fun d k _ _ => by simp (disch := omega) only [m_set_n, m_set_i]) (fun d k _ _ => by simp (disch := omega) only [m_set_n, m_set_i])
  · exact r_cgL hL (fun c k _ _ => by simp (disch := omega) only [m_set_n, m_set_i]) (fun c k _ _ => by simp (disch := omega) only [m_set_n, m_set_i])
  · exact r_cgG hG (fun c k _ _ => by simp (disch := omega) only [m_set_n, m_set_i]) (fun c k _ _ => by simp (disch := omega) only [m_set_n, m_set_i])
  · exact r_cgO hO (fun c _ => by simp (disch := omega) only [m_set_n, m_set_i]) (fun d _ => by simp (disch := omega) only [m_set_n, m_set_i])
  · obtain ⟨v1, v2, v3⟩ := hV
    unfold r_V
    simp (disch := omega) only [m_set_n, m_set_i]
    exact ⟨v1, hv, v3⟩
  · exact r_cgF hF (fun c _ => by simp (disch := omega) only [m_set_n, m_set_i])
  · exact r_cgW hW (fun d _ => ⟨by simp (disch := omega) only [m_set_n, m_set_i], by simp (disch := omega) only [m_set_n, m_set_i]⟩) (fun b _ => by simp (disch := omega) only [m_set_n, m_set_i]) (by simp (disch := omega) only [m_set_n, m_set_i])
theorem o_set (h : r_C M 0 (K 16 0 0) N B) {t : Nat} {v : Int32} (ht : t < 5) (hv : m_s24 t ≤ v ∧ v ≤ m_s25 t) : r_C (m_set M 11 0 0 t v) 0 ((m_set K 16 0 0 (8 + t) v) 16 0 0) N B := by
  obtain ⟨hA, hD, hL, hG, hO, hV, hF, hW⟩ := h
  have hN := hA.1.1
  refine ⟨?_, ?_, ?_, ?_, ?_, ?_, ?_, ?_⟩
  · obtain ⟨hN9, hB, h0, hl, s0, s1, s2, s3, s4⟩ := hA
    have ht : t = 0 ∨ t = 1 ∨ t = 2 ∨ t = 3 ∨ t = 4 := by omega
    unfold r_A
    rcases ht with rfl | rfl | rfl | rfl | rfl
    · simp (disch := omega) only [m_set_n, m_set_i]
      exact ⟨hN9, hB, h0, hl, by trivial, s1, s2, s3, s4⟩
    · simp (disch := omega) only [m_set_n, m_set_i]
      exact ⟨hN9, hB, h0, hl, s0, by first | trivial | exact m_set_i.symm, s2, s3, s4⟩
    · simp (disch := omega) only [m_set_n, m_set_i]
      exact ⟨hN9, hB, h0, hl, s0, s1, by first | trivial | exact m_set_i.symm, s3, s4⟩
    · simp (disch := omega) only [m_set_n, m_set_i]
      exact ⟨hN9, hB, h0, hl, s0, s1, s2, by first | trivial | exact m_set_i.symm, s4⟩
    · simp (disch := omega) only [m_set_n, m_set_i]
      exact ⟨hN9, hB, h0, hl, s0, s1, s2, s3, by first | trivial | exact m_set_i.symm⟩
  · exact r_cgD hD hN (fun d k _ _ => by simp (disch := omega) only [m_set_n, m_set_i]) (fun d k _ _ => by simp (disch := omega) only [m_set_n, m_set_i])
  · exact r_cgL hL (fun c k _ _ => by simp (disch := omega) only [m_set_n, m_set_i]) (fun c k _ _ => by simp (disch := omega) only [m_set_n, m_set_i])
  · exact r_cgG hG (fun c k _ _ => by simp (disch := omega) only [m_set_n, m_set_i]) (fun c k _ _ => by simp (disch := omega) only [m_set_n, m_set_i])
  · exact r_cgO hO (fun c _ => by simp (disch := omega) only [m_set_n, m_set_i]) (fun d _ => by simp (disch := omega) only [m_set_n, m_set_i])
  · obtain ⟨v1, v2, s0, s1, s2, s3, s4⟩ := hV
    have ht : t = 0 ∨ t = 1 ∨ t = 2 ∨ t = 3 ∨ t = 4 := by omega
    unfold r_V
    rcases ht with rfl | rfl | rfl | rfl | rfl
    · simp (disch := omega) only [m_set_n, m_set_i]
      exact ⟨v1, v2, hv, s1, s2, s3, s4⟩
    · simp (disch := omega) only [m_set_n, m_set_i]
      exact ⟨v1, v2, s0, hv, s2, s3, s4⟩
    · simp (disch := omega) only [m_set_n, m_set_i]
      exact ⟨v1, v2, s0, s1, hv, s3, s4⟩
    · simp (disch := omega) only [m_set_n, m_set_i]
      exact ⟨v1, v2, s0, s1, s2, hv, s4⟩
    · simp (disch := omega) only [m_set_n, m_set_i]
      exact ⟨v1, v2, s0, s1, s2, s3, hv⟩
  · exact r_cgF hF (fun c _ => by simp (disch := omega) only [m_set_n, m_set_i])
  · exact r_cgW hW (fun d _ => ⟨by simp (disch := omega) only [m_set_n, m_set_i], by simp (disch := omega) only [m_set_n, m_set_i]⟩) (fun b _ => by simp (disch := omega) only [m_set_n, m_set_i]) (by simp (disch := omega) only [m_set_n, m_set_i])
end OPS
