/-! A DAY keeps the two the same. -/
section DAY
variable {M K : m_Mem} {N B : Nat}
theorem o_id {c : Nat} (h : r_L1 M 0 (K 16 0 0) c) (ho : M 13 0 c 1 ≠ -1) : f_id M 0 c = k_id K c := by
  obtain ⟨l0, l1, l2, l4, l5, l3, l6, l7⟩ := h
  unfold f_id k_id
  rw [l7 ho, l2]
  rcases l3 with h | h
  · rw [h, if_pos rfl, if_neg (by decide)]
  · rw [h, if_neg (by decide), if_pos rfl]
theorem o_e1 (h : r_C M 0 (K 16 0 0) N B) {c : Nat} (hc : c < 10) : r_C (f_e1 M 0 c) 0 ((k_p1 K c) 16 0 0) N B ∧ f_l1 M 0 c = k_l1 K c := by
  obtain ⟨hA, hD, hL, hG, hO, hV, hF, hW⟩ := h
  have hN := hA.1.1
  have hLc := hL c hc
  obtain ⟨l0, l1, l2, l4, l5, l3, l6, l7⟩ := hLc
  have s3 : M 11 0 0 3 = K 16 0 0 11 := hA.2.2.2.2.2.2.2.1
  rcases hO.1 c hc with ho | ⟨d, hd, ho⟩
  · have hk : K 16 0 0 (77 + 6 * c + 1) < 0 := by rw [← l1, ho]; decide
    unfold f_e1 f_l1 k_p1 k_l1
    rw [if_pos ho, if_pos ho, if_pos hk, if_pos hk]
    refine ⟨⟨?_, ?_, ?_, ?_, hO, hV, hF, hW⟩, rfl⟩
    · exact r_cgA hA (fun k => rfl) (fun k _ => rfl) (fun k _ => rfl) (fun i _ => by simp (disch := omega) only [m_set_n, m_set_i])
    · exact r_cgD hD hN (fun d k _ _ => rfl) (fun d k _ _ => by simp (disch := omega) only [m_set_n, m_set_i])
    · intro c' hc'
      by_cases e : c' = c
      · subst e
        unfold r_L1
        simp (disch := omega) only [m_set_n, m_set_i]
        exact ⟨l0, l1, l2, l4, l5, l3, l6, fun q => absurd ho q⟩
      · exact r_cgL1 (hL c' hc') (fun k _ => rfl) (fun k _ => by simp (disch := omega) only [m_set_n, m_set_i])
    · exact r_cgG hG (fun c k _ _ => rfl) (fun c k _ _ => by simp (disch := omega) only [m_set_n, m_set_i])
  · have hne : M 13 0 c 1 ≠ -1 := by
      rw [ho]
      exact nI_m1 (by omega)
    have hk : ¬ K 16 0 0 (77 + 6 * c + 1) < 0 := by rw [← l1, ho]; exact nI_pos (by omega)
    have hid := o_id (hL c hc) hne
    have how : f_ow M 0 c = d := by
      unfold f_ow
      rw [ho]
      exact nI_clamp (by omega)
    have how2 : (K 16 0 0 (77 + 6 * c + 1)).toNatClampNeg = d := by
      rw [← l1, ho]
      exact nI_clamp (by omega)
    have k11 : ∀ v, m_set K 16 0 0 (77 + 6 * c + 2) v 16 0 0 11 = K 16 0 0 11 := fun v => by simp (disch := omega) only [m_set_n, m_set_i]
    unfold f_e1 f_l1 k_p1 k_l1
    rw [if_neg hne, if_neg hne, if_neg hk, if_neg hk]
    simp only [k11]
    rw [how, how2, hid, s3]
    by_cases hla : K 16 0 0 11 ≤ k_id K c
    · have hlb : ¬ k_id K c < K 16 0 0 11 := Int32.not_lt.mpr hla
      rw [if_pos hla, if_pos hla, if_neg hlb, if_neg hlb]
      refine ⟨?_, rfl⟩
      unfold f_give k_fr
      refine ⟨?_, ?_, ?_, ?_, ?_, ?_, ?_, ?_⟩
      · exact r_cgA hA (fun k => by simp (disch := omega) only [m_set_n, m_set_i]) (fun k _ => by simp (disch := omega) only [m_set_n, m_set_i]) (fun k _ => by simp (disch := omega) only [m_set_n, m_set_i]) (fun i _ => by simp (disch := omega) only [m_set_n, m_set_i])
      · refine ⟨fun d' hd' k hk => ?_, fun d' h1 h2 k hk => ?_⟩
        · by_cases e : d' = d ∧ k = 2
          · obtain ⟨rfl, rfl⟩ := e
            simp (disch := omega) only [m_set_n, m_set_i]
          · simp (disch := omega) only [m_set_n, m_set_i]
            exact hD.1 d' hd' k hk
        · simp (disch := omega) only [m_set_n, m_set_i]
          exact hD.2 d' h1 h2 k hk
      · intro c' hc'
        by_cases e : c' = c
        · subst e
          unfold r_L1
          simp (disch := omega) only [m_set_n, m_set_i]
          exact ⟨l0, by trivial, by trivial, l4, by rw [l5], Or.inl (by trivial), fun _ => by trivial, fun q => absurd rfl q⟩
        · exact r_cgL1 (hL c' hc') (fun k _ => by simp (disch := omega) only [m_set_n, m_set_i]) (fun k _ => by simp (disch := omega) only [m_set_n, m_set_i])
      · exact r_cgG hG (fun c k _ _ => by simp (disch := omega) only [m_set_n, m_set_i]) (fun c k _ _ => by simp (disch := omega) only [m_set_n, m_set_i])
      · refine ⟨fun c' hc' => ?_, fun d' hd' => ?_⟩
        · by_cases e : c' = c
          · subst e
            exact Or.inl (by simp (disch := omega) only [m_set_n, m_set_i])
          · simp (disch := omega) only [m_set_n, m_set_i]
            exact hO.1 c' hc'
        · by_cases e : d' = d
          · subst e
            exact Or.inl (by simp (disch := omega) only [m_set_n, m_set_i])
          · rcases hO.2 d' hd' with h | ⟨c', h1, h2, h3⟩
            · exact Or.inl (by simp (disch := omega) only [m_set_n, m_set_i]; exact h)
            · have hcc : c' ≠ c := by
                intro q
                rw [q, ho] at h3
                exact e ((nI_eq (by omega) (by omega)).mp h3).symm
              exact Or.inr ⟨c', h1, by simp (disch := omega) only [m_set_n, m_set_i]; exact h2, by simp (disch := omega) only [m_set_n, m_set_i]; exact h3⟩
      · exact r_cgV hV (fun k _ _ => by simp (disch := omega) only [m_set_n, m_set_i]) (fun k _ => by simp (disch := omega) only [m_set_n, m_set_i])
      · exact r_cgF hF (fun c _ => by simp (disch := omega) only [m_set_n, m_set_i])
      · exact r_cgW hW (fun d _ => ⟨by simp (disch := omega) only [m_set_n, m_set_i], by simp (disch := omega) only [m_set_n, m_set_i]⟩) (fun b _ => by simp (disch := omega) only [m_set_n, m_set_i]) (by simp (disch := omega) only [m_set_n, m_set_i])
    · have hlb : k_id K c < K 16 0 0 11 := Int32.not_le.mp hla
      rw [if_neg hla, if_neg hla, if_pos hlb, if_pos hlb]
      refine ⟨?_, rfl⟩
      refine ⟨?_, ?_, ?_, ?_, ?_, ?_, ?_, ?_⟩
      · exact r_cgA hA (fun k => by simp (disch := omega) only [m_set_n, m_set_i]) (fun k _ => by simp (disch := omega) only [m_set_n, m_set_i]) (fun k _ => by simp (disch := omega) only [m_set_n, m_set_i]) (fun i _ => by simp (disch := omega) only [m_set_n, m_set_i])
      · exact r_cgD hD hN (fun d k _ _ => by simp (disch := omega) only [m_set_n, m_set_i]) (fun d k _ _ => by simp (disch := omega) only [m_set_n, m_set_i])
      · intro c' hc'
        by_cases e : c' = c
        · subst e
          unfold r_L1
          simp (disch := omega) only [m_set_n, m_set_i]
          exact ⟨l0, l1, by trivial, l4, l5, Or.inl (by trivial), fun _ => by trivial, fun _ => by trivial⟩
        · exact r_cgL1 (hL c' hc') (fun k _ => by simp (disch := omega) only [m_set_n, m_set_i]) (fun k _ => by simp (disch := omega) only [m_set_n, m_set_i])
      · exact r_cgG hG (fun c k _ _ => by simp (disch := omega) only [m_set_n, m_set_i]) (fun c k _ _ => by simp (disch := omega) only [m_set_n, m_set_i])
      · exact r_cgO hO (fun c _ => by simp (disch := omega) only [m_set_n, m_set_i]) (fun d _ => by simp (disch := omega) only [m_set_n, m_set_i])
      · exact r_cgV hV (fun k _ _ => by simp (disch := omega) only [m_set_n, m_set_i]) (fun k _ => by simp (disch := omega) only [m_set_n, m_set_i])
      · exact r_cgF hF (fun c _ => by simp (disch := omega) only [m_set_n, m_set_i])
      · exact r_cgW hW (fun d _ => ⟨by simp (disch := omega) only [m_set_n, m_set_i], by simp (disch := omega) only [m_set_n, m_set_i]⟩) (fun b _ => by simp (disch := omega) only [m_set_n, m_set_i]) (by simp (disch := omega) only [m_set_n, m_set_i])
theorem o_en (h : r_C M 0 (K 16 0 0) N B) : ∀ n, n ≤ 10 → r_C (f_en M 0 n) 0 ((k_pn K n) 16 0 0) N B ∧ f_ln M 0 n = k_ln K n
  | 0, _ => ⟨h, rfl⟩
  | n + 1, hn => by
    obtain ⟨h1, h2⟩ := o_en h n (by omega)
    obtain ⟨h3, h4⟩ := o_e1 h1 (c := n) (by omega)
    refine ⟨h3, ?_⟩
    show f_ln M 0 n + f_l1 (f_en M 0 n) 0 n = k_ln K n + k_l1 (k_pn K n) n
    rw [h2, h4]
theorem i_day {x : Int32} (h1 : 0 ≤ x) (h2 : x + 1 ≤ 9999) (h3 : x ≤ 9999) : 0 ≤ x + 1 := by
  obtain ⟨k, k1, rfl⟩ := nI_upto (N := 9999) h1 h3 (by decide)
  rw [nI_1]
  exact nI_pos' (by omega)
theorem o_dy (h : r_C M 0 (K 16 0 0) N B) (hd : M 7 0 0 7 + 1 ≤ 9999) : r_C (f_dy M) 0 ((k_dy K) 16 0 0) N B ∧ f_ln M 0 10 = k_ln K 10 := by
  obtain ⟨h1, h2⟩ := o_en h 10 (Nat.le_refl _)
  refine ⟨?_, h2⟩
  have e7 : f_en M 0 10 7 0 0 7 = M 7 0 0 7 := f_en_o M 0 7 0 0 7 (by decide) 10 (fun q => absurd q (by decide))
  have ek : k_pn K 10 16 0 0 0 = M 7 0 0 7 := by rw [← h1.1.2.2.1.1]; exact e7
  have hV0 := h.2.2.2.2.2.1
  unfold f_dy k_dy
  rw [ek]
  obtain ⟨hA, hD, hL, hG, hO, hV, hF, hW⟩ := h1
  have hN := hA.1.1
  refine ⟨?_, ?_, ?_, ?_, ?_, ?_, ?_, ?_⟩
  · obtain ⟨hN9, hB9, ⟨h0, h8, h9⟩, hl, hs⟩ := hA
    unfold r_A
    simp (disch := omega) only [m_set_n, m_set_i]
    exact ⟨hN9, hB9, ⟨by trivial, h8, h9⟩, hl, hs⟩
  · exact r_cgD hD hN (fun d k _ _ => by simp (disch := omega) only [m_set_n, m_set_i]) (fun d k _ _ => by simp (disch := omega) only [m_set_n, m_set_i])
  · exact r_cgL hL (fun c k _ _ => by simp (disch := omega) only [m_set_n, m_set_i]) (fun c k _ _ => by simp (disch := omega) only [m_set_n, m_set_i])
  · exact r_cgG hG (fun c k _ _ => by simp (disch := omega) only [m_set_n, m_set_i]) (fun c k _ _ => by simp (disch := omega) only [m_set_n, m_set_i])
  · exact r_cgO hO (fun c _ => by simp (disch := omega) only [m_set_n, m_set_i]) (fun d _ => by simp (disch := omega) only [m_set_n, m_set_i])
  · obtain ⟨v1, v2, v3⟩ := hV
    unfold r_V
    simp (disch := omega) only [m_set_n, m_set_i]
    exact ⟨⟨i_day hV0.1.1 hd hV0.1.2, hd⟩, v2, v3⟩
  · exact r_cgF hF (fun c _ => by simp (disch := omega) only [m_set_n, m_set_i])
  · exact r_cgW hW (fun d _ => ⟨by simp (disch := omega) only [m_set_n, m_set_i], by simp (disch := omega) only [m_set_n, m_set_i]⟩) (fun b _ => by simp (disch := omega) only [m_set_n, m_set_i]) (by simp (disch := omega) only [m_set_n, m_set_i])
theorem f_dy_7 (M : m_Mem) : f_dy M 7 0 0 7 = M 7 0 0 7 + 1 := m_set_i
/-- n days -/
theorem o_dn (h : r_C M 0 (K 16 0 0) N B) {v : Nat} (hv : v ≤ 30) (hd : M 7 0 0 7 + nI v ≤ 9999) : ∀ n, n ≤ v → r_C (f_dn M n) 0 ((k_dn K n) 16 0 0) N B ∧ f_dl M n = k_dl K n ∧ f_dn M n 7 0 0 7 = M 7 0 0 7 + nI n
  | 0, _ => ⟨h, rfl, (Int32.add_zero _).symm⟩
  | n + 1, hn => by
    obtain ⟨h1, h2, h3⟩ := o_dn h hv hd n (by omega)
    have hV0 := h.2.2.2.2.2.1
    obtain ⟨k, k1, k2⟩ := nI_upto (N := 9999) hV0.1.1 hV0.1.2 (by decide)
    have h4 : f_dn M n 7 0 0 7 + 1 ≤ 9999 := by
      rw [h3, k2, nI_add, nI_1]
      rw [k2, nI_add] at hd
      have := (nI_leI (a := k + v) (b := 9999) (by omega) (by decide)).mp hd
      exact (nI_le (by omega) (by decide) : nI (k + n + 1) ≤ nI 9999)
    obtain ⟨h5, h6⟩ := o_dy h1 h4
    refine ⟨h5, ?_, ?_⟩
    · show f_dl M n + f_ln (f_dn M n) 0 10 = k_dl K n + k_ln (k_dn K n) 10
      rw [h2, h6]
    · show f_dy (f_dn M n) 7 0 0 7 = _
      rw [f_dy_7, h3, Int32.add_assoc, nI_1]
/-- what a day's end asks for, of both -/
theorem o_fok (h : r_C M 0 (K 16 0 0) N B) : f_ok M := by
  obtain ⟨hA, hD, hL, hG, hO, hV, hF, hW⟩ := h
  refine ⟨fun c hc => ?_, fun c hc => ?_⟩
  · rcases (hL c hc).2.2.2.2.2.1 with h | h <;> rw [h] <;> decide
  · rcases hO.1 c hc with h | ⟨d, h1, h2⟩
    · exact Or.inl h
    · exact Or.inr ⟨d, by have := hA.1.1; omega, h2, by rw [hA.1.2.1]; exact nI_lt h1 (by have := hA.1.1; omega)⟩
theorem o_kok (h : r_C M 0 (K 16 0 0) N B) : k_ok K := by
  intro c hc
  obtain ⟨⟨hA, hD, hL, hG, hO, hV, hF, hW⟩, -⟩ := o_en h c (by omega)
  have l1 := (hL c hc).2.1
  rw [← l1]
  rcases hO.1 c hc with h | ⟨d, h1, h2⟩
  · exact Or.inl (by rw [h]; decide)
  · exact Or.inr ⟨d, by have := hA.1.1; omega, h2⟩
end DAY
