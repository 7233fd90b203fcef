/-! WHAT A CALL of both does: the frame of it. -/
section SIM
variable {M M' K K' : m_Mem} {n N B N' B' L : Nat}
-- frames
theorem f_sv_15 {a b c k : Nat} (h : 15 ≤ a) : f_sv M n a b c k = M a b c k := by
  unfold f_sv
  split
  · rw [m_set_n (by omega), f_cm_n (by omega)]
  · rw [m_set_n (by omega), f_cm_n (by omega), m_set_n (by omega)]
    exact if_neg (by omega)
-- what is asked of rows
theorem z_tk (h : r_L M 0 (K 16 0 0)) (hO : r_O M 0 N) (hN : N ≤ 8) : ∀ n, n ≤ 10 → f_tk M 0 n = k_tk K n
  | 0, _ => rfl
  | n + 1, hn => by
    have l1 := (h n (by omega)).2.1
    show (if M 13 0 n 1 = -1 then f_tk M 0 n else f_tk M 0 n + 1) = (if K 16 0 0 (77 + 6 * n + 1) < 0 then k_tk K n + 0 else k_tk K n + 1)
    rw [z_tk h hO hN n (by omega), ← l1, Int32.add_zero]
    rcases hO.1 n (by omega) with e | ⟨d, h1, h2⟩
    · rw [e, if_pos rfl, if_pos (by decide)]
    · rw [h2, if_neg (nI_m1 (by omega)), if_neg (nI_pos (by omega))]
theorem z_taken (h : r_C M 0 (K 16 0 0) N B) : f_tk M 0 10 = k_tk K 10 := z_tk h.2.2.1 h.2.2.2.2.1 h.1.1.1 10 (Nat.le_refl _)
theorem zc_has (h : r_C M 0 (K 16 0 0) N B) (d : Int32) : f_is d (K 16 0 0 1) = f_has d (M 7 0 0 5) 8 := by
  rw [h.1.1.2.1, h.1.1.2.2]
  exact f_is_has d N 8 h.1.1.1 (by decide)
theorem zc_hasd (h : r_C M 0 (K 16 0 0) N B) {d : Int32} (hd : ¬ f_has d (M 7 0 0 5) 8 = 0) : ∃ d', d' < N ∧ d = nI d' := by
  have h1 := (f_has_c d (M 7 0 0 5) 8).resolve_right hd
  rw [h.1.1.2.1] at h1
  exact f_has1 (L := 8) h.1.1.1 (by decide) h1
theorem z_own (h : r_C M 0 (K 16 0 0) N B) {d : Nat} (hd : d < N) : (0 ≤ K 16 0 0 (13 + 8 * d + 2) ↔ ¬ M 12 0 d 2 = -1) ∧ (K 16 0 0 (13 + 8 * d + 2) < 0 ↔ M 12 0 d 2 = -1) := by
  have e := h.2.1.1 d hd 2 (by decide)
  rw [← e]
  rcases h.2.2.2.2.1.2 d hd with q | ⟨c, c1, c2, c3⟩
  · rw [q]
    decide
  · rw [c2]
    have z := @nI_m1 c (by omega)
    exact ⟨⟨fun _ => z, fun _ => nI_pos' (by omega)⟩, ⟨fun q => absurd q (nI_pos (by omega)), fun q => absurd q z⟩⟩
theorem z_who (h : r_C M 0 (K 16 0 0) N B) {c : Nat} (hc : c < 10) : 0 ≤ K 16 0 0 (77 + 6 * c + 1) ↔ ¬ M 13 0 c 1 = -1 := by
  have e := (h.2.2.1 c hc).2.1
  have hN := h.1.1.1
  rw [← e]
  rcases h.2.2.2.2.1.1 c hc with q | ⟨d, d1, d2⟩
  · rw [q]
    decide
  · rw [d2]
    exact ⟨fun _ => nI_m1 (by omega), fun _ => nI_pos' (by omega)⟩
theorem zc_ms (h : r_C M 0 (K 16 0 0) N B) (d c : Int32) : k_ms K d c = if f_has d (M 7 0 0 5) 8 = 0 then 1 else if f_bw c 0 9 = 0 then 2 else if M 12 0 d.toNatClampNeg 2 = -1 ∧ M 13 0 c.toNatClampNeg 1 = -1 then 0 else 3 := by
  unfold k_ms
  rw [zc_has h]
  by_cases c1 : f_has d (M 7 0 0 5) 8 = 0
  · rw [if_pos c1, if_pos c1]
  · rw [if_neg c1, if_neg c1]
    by_cases c2 : f_bw c 0 9 = 0
    · rw [if_pos c2, if_pos c2]
    · rw [if_neg c2, if_neg c2]
      obtain ⟨d', d1, rfl⟩ := zc_hasd h c1
      obtain ⟨c', k1, rfl⟩ := f_bw_0n (U := 9) ((f_bw_c c 0 9).resolve_right c2) (by decide)
      have hN := h.1.1.1
      rw [nI_clamp (by omega), nI_clamp (by omega)]
      have w1 := (z_own h d1).1
      have w2 := z_who h (c := c') (by omega)
      by_cases q : M 12 0 d' 2 = -1 ∧ M 13 0 c' 1 = -1
      · rw [if_pos q, if_neg]
        rintro (z | z)
        · exact w1.mp z q.1
        · exact w2.mp z q.2
      · rw [if_neg q, if_pos]
        by_cases q1 : M 12 0 d' 2 = -1
        · exact Or.inr (w2.mpr (fun z => q ⟨q1, z⟩))
        · exact Or.inl (w1.mpr q1)
theorem zc_mw (h : r_C M 0 (K 16 0 0) N B) (d g : Int32) : k_mw K d g = if f_has d (M 7 0 0 5) 8 = 0 then 1 else if f_bw g 1 9999 = 0 then 2 else if ¬ M 12 0 d.toNatClampNeg 2 = -1 ∧ M 14 0 12 0 + g ≤ 99999 then 0 else 3 := by
  unfold k_mw
  rw [zc_has h]
  by_cases c1 : f_has d (M 7 0 0 5) 8 = 0
  · rw [if_pos c1, if_pos c1]
  · rw [if_neg c1, if_neg c1]
    by_cases c2 : f_bw g 1 9999 = 0
    · rw [if_pos c2, if_pos c2]
    · rw [if_neg c2, if_neg c2]
      obtain ⟨d', d1, rfl⟩ := zc_hasd h c1
      have hN := h.1.1.1
      rw [nI_clamp (by omega), ← h.1.2.2.2.1.1]
      have w1 := (z_own h d1).2
      by_cases q : ¬ M 12 0 d' 2 = -1 ∧ M 14 0 12 0 + g ≤ 99999
      · rw [if_pos q, if_neg]
        rintro (z | z)
        · exact q.1 (w1.mp z)
        · exact Int32.not_lt.mpr q.2 z
      · rw [if_neg q, if_pos]
        by_cases q1 : M 12 0 d' 2 = -1
        · exact Or.inl (w1.mpr q1)
        · exact Or.inr (Int32.not_le.mp (fun z => q ⟨q1, z⟩))
theorem z_lk (h : r_C M 0 (K 16 0 0) N B) {d : Nat} (hd : d < N) (g : Int32) : f_da M 0 d g = K 16 0 0 (13 + 8 * d + 1) + k_lk K d g := by
  unfold f_da k_lk
  rw [h.2.1.1 d hd 0 (by decide), h.2.1.1 d hd 1 (by decide)]
  split
  · rfl
  · rw [Int32.add_zero]
theorem zc_mb (h : r_C M 0 (K 16 0 0) N B) (d g : Int32) : k_mb K d g = if f_has d (M 7 0 0 5) 8 = 0 then 1 else if f_bw g 1 9999 = 0 then 2 else if f_da M 0 d.toNatClampNeg g ≤ 5000 then 0 else 3 := by
  unfold k_mb
  rw [zc_has h]
  by_cases c1 : f_has d (M 7 0 0 5) 8 = 0
  · rw [if_pos c1, if_pos c1]
  · rw [if_neg c1, if_neg c1]
    by_cases c2 : f_bw g 1 9999 = 0
    · rw [if_pos c2, if_pos c2]
    · rw [if_neg c2, if_neg c2]
      obtain ⟨d', d1, rfl⟩ := zc_hasd h c1
      have hN := h.1.1.1
      rw [nI_clamp (by omega), ← z_lk h d1]
      by_cases q : f_da M 0 d' g ≤ 5000
      · rw [if_pos q, if_neg (Int32.not_lt.mpr q)]
      · rw [if_neg q, if_pos (Int32.not_le.mp q)]
theorem z_dp (h : r_C M 0 (K 16 0 0) N B) {d k : Nat} (hd : d < N) (hk : k < 9) : f_dp M 0 d k = k_dp K d k := by
  unfold f_dp k_dp f_loss k_lost
  rw [h.2.1.1 d hd 4 (by decide), h.2.1.1 d hd 5 (by decide), h.2.1.1 d hd 6 (by decide), p_worth h.1]
  by_cases e : k = 8
  · rw [if_pos e, if_neg (by omega : ¬ k < 8)]
  · rw [if_neg e, if_pos (by omega : k < 8)]
    exact h.2.1.1 d hd k (by omega)
theorem z_loss (h : r_C M 0 (K 16 0 0) N B) {d : Nat} (hd : d < N) : f_loss M 0 d = k_lost K d := by
  unfold f_loss k_lost
  rw [h.2.1.1 d hd 4 (by decide), h.2.1.1 d hd 5 (by decide), h.2.1.1 d hd 6 (by decide), p_worth h.1]
theorem z_cpp (h : r_C M 0 (K 16 0 0) N B) {c k : Nat} (hc : c < 10) (hk : k < 5) : f_cpp M 0 c k = K 16 0 0 (77 + 6 * c + k) := by
  obtain ⟨l0, l1, l2, l4, l5, -⟩ := h.2.2.1 c hc
  have hk : k = 0 ∨ k = 1 ∨ k = 2 ∨ k = 3 ∨ k = 4 := by omega
  rcases hk with rfl | rfl | rfl | rfl | rfl
  · exact l0
  · exact l1
  · exact l2
  · exact l4
  · exact l5
theorem z_bw (h : r_C M 0 (K 16 0 0) N B) {b : Nat} (hb : b < B) : 0 < M 14 0 b 0 := by
  obtain ⟨g, p, w, l, h1, h2, h3, h4, h5⟩ := h.2.2.2.2.2.2.2
  obtain ⟨k1, k2, k3⟩ := h2 b hb
  rw [k1]
  exact (nI_lt (by omega) (by omega) : nI 0 < nI (w b))
theorem z_W (h : r_C M 0 (K 16 0 0) N B) : ∀ b, b < B → ¬ K 16 0 0 (137 + 3 * b + 0) = 0 := fun b hb q => by
  have hB := h.1.2.1.1
  have h1 := z_bw h hb
  rw [(h.2.2.2.1 b (by omega)).1, q] at h1
  exact absurd h1 (by decide)
theorem z_bp (h : r_C M 0 (K 16 0 0) N B) {b k : Nat} (hb : b < B) (hk : k < 5) : f_bp M 0 b k = k_bp K b k := by
  have hB := h.1.2.1.1
  obtain ⟨b0, b1, b2⟩ := h.2.2.2.1 b (by omega)
  have hw := z_bw h hb
  have hk : k = 0 ∨ k = 1 ∨ k = 2 ∨ k = 3 ∨ k = 4 := by omega
  rcases hk with rfl | rfl | rfl | rfl | rfl
  · exact b0
  · exact b1
  · show (if 0 < M 14 0 b 0 then 1000 * M 14 0 b 1 / M 14 0 b 0 else 0) = 1000 * K 16 0 0 (137 + 3 * b + 1) / K 16 0 0 (137 + 3 * b + 0)
    rw [if_pos hw, b0, b1]
  · exact b2
  · show f_worth M 0 (M 14 0 b 1) = k_worth K (K 16 0 0 (137 + 3 * b + 1))
    rw [p_worth h.1, b1]
theorem z_tot (h : r_C M 0 (K 16 0 0) N B) {k : Nat} (hk : k < 8) : ∀ n, n ≤ N → f_tot M 0 k n = k_tot K k n
  | 0, _ => rfl
  | n + 1, hn => by
    show f_tot M 0 k n + M 12 0 n k = k_tot K k n + K 16 0 0 (13 + 8 * n + k)
    rw [z_tot h hk n (by omega), h.2.1.1 n (by omega) k hk]
theorem z_fib (h : r_C M 0 (K 16 0 0) N B) : ∀ n, n ≤ B → f_fib M 0 n = k_fib K n
  | 0, _ => h.1.2.2.2.1.2.1
  | n + 1, hn => by
    have hB := h.1.2.1.1
    show f_fib M 0 n + M 14 0 n 1 = k_fib K n + K 16 0 0 (137 + 3 * n + 1)
    rw [z_fib h n (by omega), (h.2.2.2.1 n (by omega)).2.1]
theorem z_num (h : r_C M 0 (K 16 0 0) N B) (n : Nat) {k : Nat} (hk : k < 17) : (if k = 16 then nI n else f_num M 0 N B k) = k_num K n N B k := by
  obtain ⟨⟨hA1, hA2, hA3⟩, ⟨hB1, hB2, hB3⟩, ⟨h0, h8, h9⟩, ⟨w0, w1, w2⟩, hs⟩ := h.1
  have tt := fun k (hk : k < 8) => z_tot h hk N (Nat.le_refl _)
  have hk : k = 0 ∨ k = 1 ∨ k = 2 ∨ k = 3 ∨ k = 4 ∨ k = 5 ∨ k = 6 ∨ k = 7 ∨ k = 8 ∨ k = 9 ∨ k = 10 ∨ k = 11 ∨ k = 12 ∨ k = 13 ∨ k = 14 ∨ k = 15 ∨ k = 16 := by omega
  rcases hk with rfl | rfl | rfl | rfl | rfl | rfl | rfl | rfl | rfl | rfl | rfl | rfl | rfl | rfl | rfl | rfl | rfl
  · exact h0
  · exact hA2.trans hA3.symm
  · exact z_taken h
  · exact w0
  · exact w1
  · exact hB2.trans hB3.symm
  · show M 7 0 0 8 + 50 = K 16 0 0 6 + 50
    rw [h8]
  · exact h9
  · exact tt 0 (by decide)
  · exact tt 1 (by decide)
  · exact tt 5 (by decide)
  · exact tt 6 (by decide)
  · exact tt 7 (by decide)
  · exact z_fib h B (Nat.le_refl _)
  · exact tt 4 (by decide)
  · show f_tot M 0 0 N + f_tot M 0 7 N - f_tot M 0 1 N = k_tot K 0 N + k_tot K 7 N - k_tot K 1 N
    rw [tt 0 (by decide), tt 7 (by decide), tt 1 (by decide)]
  · rfl
end SIM
