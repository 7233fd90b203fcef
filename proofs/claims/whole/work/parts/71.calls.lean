/-! THE CALLS that change the camp: class and model do the same. -/
section FRAMES
variable {M K : m_Mem}
theorem w_take {d c : Nat} {x y : Int32} {a b c' k : Nat} (h : b ≠ 0 ∨ a < 7 ∨ 15 ≤ a) : f_give (m_set M 12 0 d 2 x) 0 c y a b c' k = M a b c' k := by
  unfold f_give
  simp (disch := omega) only [m_set_n, m_set_i]
theorem w_st {d c : Nat} {a b c' k : Nat} (h : a ≠ 16) : k_st K d c a b c' k = K a b c' k := by
  unfold k_st
  simp (disch := omega) only [m_set_n, m_set_i]
theorem w_free {d c : Nat} {a b c' k : Nat} (h : a ≠ 16) : k_fr K d c a b c' k = K a b c' k := by
  unfold k_fr
  simp (disch := omega) only [m_set_n, m_set_i]
theorem w_wi {d c : Nat} {g : Int32} {a b c' k : Nat} (h : b ≠ 0 ∨ a < 7 ∨ 15 ≤ a) : f_wi M 0 d c g a b c' k = M a b c' k := by
  simp (disch := omega) only [f_wi, f_rc, f_ga, f_cw_o, m_set_n]
theorem w_wk {d c : Nat} {g : Int32} {a b c' k : Nat} (h : a ≠ 16) : k_wi K d c g a b c' k = K a b c' k := by
  simp (disch := omega) only [k_wi_e, k_M4, k_ad_n, m_set_n]
theorem w_sp {d : Nat} {g : Int32} {a b c' k : Nat} (h : b ≠ 0 ∨ a < 7 ∨ 15 ≤ a) : f_sp M 0 d g a b c' k = M a b c' k := by
  simp (disch := omega) only [f_sp, m_set_n]
theorem w_bu {d : Nat} {g : Int32} {a b c' k : Nat} (h : a ≠ 16) : k_bu K d g a b c' k = K a b c' k := by
  simp (disch := omega) only [k_bu, m_set_n]
theorem w_melt {d : Nat} {a b c' k : Nat} (h : b ≠ 0 ∨ a < 7 ∨ 15 ≤ a) : f_melt M 0 d a b c' k = M a b c' k := by
  simp (disch := omega) only [f_melt, m_cp_o, m_set_n]
theorem w_me {d : Nat} {a b c' k : Nat} (h : a ≠ 16) : k_me K d a b c' k = K a b c' k := by
  simp (disch := omega) only [k_me, k_mt, m_set_n]
theorem w_e1 {c : Nat} {a b c' k : Nat} (h : b ≠ 0 ∨ a < 7 ∨ 15 ≤ a) : f_e1 M 0 c a b c' k = M a b c' k := by
  unfold f_e1
  split
  · rfl
  · split
    · unfold f_give
      simp (disch := omega) only [m_set_n, m_set_i]
    · simp (disch := omega) only [m_set_n, m_set_i]
theorem w_p1 {c : Nat} {a b c' k : Nat} (h : a ≠ 16) : k_p1 K c a b c' k = K a b c' k := by
  unfold k_p1
  rw [m_set_n (by omega)]
  split
  · rfl
  · dsimp only
    split
    · simp (disch := omega) only [m_set_n, m_set_i]
    · rw [m_set_n (by omega), w_free h]
      simp (disch := omega) only [m_set_n, m_set_i]
theorem w_en {a b c' k : Nat} (h : b ≠ 0 ∨ a < 7 ∨ 15 ≤ a) : ∀ n, f_en M 0 n a b c' k = M a b c' k
  | 0 => rfl
  | n + 1 => (w_e1 h).trans (w_en h n)
theorem w_pn {a b c' k : Nat} (h : a ≠ 16) : ∀ n, k_pn K n a b c' k = K a b c' k
  | 0 => rfl
  | n + 1 => (w_p1 h).trans (w_pn h n)
theorem w_dy {a b c' k : Nat} (h : b ≠ 0 ∨ a < 7 ∨ 15 ≤ a) : f_dy M a b c' k = M a b c' k := by
  unfold f_dy
  rw [m_set_n (by omega), w_en h]
theorem w_kdy {a b c' k : Nat} (h : a ≠ 16) : k_dy K a b c' k = K a b c' k := by
  unfold k_dy
  rw [m_set_n (by omega), w_pn h]
theorem w_dn {a b c' k : Nat} (h : b ≠ 0 ∨ a < 7 ∨ 15 ≤ a) : ∀ n, f_dn M n a b c' k = M a b c' k
  | 0 => rfl
  | n + 1 => (w_dy h).trans (w_dn h n)
theorem w_kdn {a b c' k : Nat} (h : a ≠ 16) : ∀ n, k_dn K n a b c' k = K a b c' k
  | 0 => rfl
  | n + 1 => (w_kdy h).trans (w_kdn h n)
theorem w_dg {d n : Nat} {x : Int32} {a b c' k : Nat} (h : a ≠ 16) : m_set (k_dg K d n) 16 0 0 1 x a b c' k = K a b c' k := by
  rw [m_set_n (by omega)]
  induction n with
  | zero => rfl
  | succ n ih =>
    show m_set (k_dg K d n) 16 0 0 (13 + 8 * d + n) _ a b c' k = _
    rw [m_set_n (by omega)]
    exact ih
end FRAMES
section CALLS
variable {M : m_Mem} {n N B L : Nat} {f : String → Option Int32}
/-- a call that saves and changes the present camp alone -/
theorem z_now {X Y : Nat} {as asm : List Value} {v : Int32} {M1 : m_Mem} (hT : r_T M M n N B L) (e : m_cl X as M = some (.inl (some (.int v)), M1)) (hM1 : ∀ a b c k, (b ≠ 0 ∨ a < 7 ∨ 15 ≤ a) → M1 a b c k = f_sv M n a b c k)
    (h : ∀ K, r_T M K n N B L → ∃ K2, m_cl Y asm K = some (.inl (some (.int v)), K2) ∧ (∀ a b c k, a ≠ 16 → K2 a b c k = k_sv (k_0 K) n a b c k) ∧ ∃ N' B', r_C M1 0 (K2 16 0 0) N' B') : z_S X Y as asm M f := by
  refine z_v hT e (fun a b c k h1 => by rw [hM1 _ _ _ _ (by omega)]; exact f_sv_15 h1) (fun K hb => ?_)
  obtain ⟨K2, g1, g2, N', B', g3⟩ := h K hb
  refine ⟨K2, g1, fun a b c k h1 => ?_, ?_, r_n n, N', B', L, ?_⟩
  · rw [g2 _ _ _ _ (by omega), k_sv_15 h1]
  · rw [g2 _ _ _ _ (by omega)]
    exact k_sv_5
  · exact r_Tnow (z_sv hb) g3 (fun a b c k h1 => hM1 _ _ _ _ (by omega)) (fun a b c k h1 h2 h3 h4 => g2 _ _ _ _ h3)
theorem z_digger (hT : r_T M M n N B L) (h1 : f "java/lang/IllegalStateException" = some 1) : z_S 63 132 [.ref (m_lc 1 0 0)] [.ref (m_lc 15 0 0)] M f := by
  have e := a_digger (z_fI hT)
  by_cases c1 : N < 8
  · rw [if_pos c1] at e
    refine z_now hT e (fun a b c k h => m_set_n (by omega)) (fun K hb => ⟨m_set (k_dg (k_sv (k_0 K) n) N 8) 16 0 0 1 (nI (N + 1)), (h_digger (z_kJ hb)).trans (if_pos c1), fun a b c k h => w_dg h, N + 1, B, ?_⟩)
    exact o_digger (z_C (z_sv hb)) c1
  · rw [if_neg c1] at e
    exact z_e hT e h1 (by decide) (fun K hb => (h_digger (z_kJ hb)).trans (if_neg c1))
theorem z_stake (hT : r_T M M n N B L) (h1 : f "java/lang/IndexOutOfBoundsException" = some 1) (h2 : f "java/lang/IllegalArgumentException" = some 2) (h3 : f "java/lang/IllegalStateException" = some 3) (d c : Int32) : z_S 64 134 [.ref (m_lc 1 0 0), .int d, .int c] [.ref (m_lc 15 0 0), .int d, .int c] M f := by
  have e := a_stake (z_fI hT) d c
  by_cases c1 : f_has d (M 7 0 0 5) 8 = 0
  · rw [if_pos c1] at e
    refine z_e hT e h1 (by decide) (fun K hb => ?_)
    rw [h_stake (z_kJ hb) d c, z_ms (z_k0 hb), if_pos c1]
    rfl
  · rw [if_neg c1] at e
    by_cases c2 : f_bw c 0 9 = 0
    · rw [if_pos c2] at e
      refine z_e hT e h2 (by decide) (fun K hb => ?_)
      rw [h_stake (z_kJ hb) d c, z_ms (z_k0 hb), if_neg c1, if_pos c2]
      rfl
    · rw [if_neg c2] at e
      by_cases c3 : M 12 0 d.toNatClampNeg 2 = -1 ∧ M 13 0 c.toNatClampNeg 1 = -1
      · rw [if_pos c3] at e
        have hN := (z_C hT).1.1.1
        obtain ⟨d', d1, rfl⟩ := z_hasd hT c1
        obtain ⟨c', k1, rfl⟩ := f_bw_0n (U := 9) ((f_bw_c c 0 9).resolve_right c2) (by decide)
        have e2 := e
        rw [nI_clamp (show d' < 2 ^ 31 by omega), nI_clamp (show c' < 2 ^ 31 by omega)] at e2
        have c4 := c3.2
        rw [nI_clamp (show c' < 2 ^ 31 by omega)] at c4
        refine z_now hT e2 (fun a b c k h => w_take h) (fun K hb => ?_)
        have hC := o_take (z_C (z_sv hb)) d1 (show c' < 10 by omega) ((f_sv_o M n 13 0 c' 1 (by decide) (by decide) (by decide)).trans c4)
        refine ⟨k_st (k_sv (k_0 K) n) d' c', ?_, fun a b c k h => w_st h, N, B, hC⟩
        rw [h_stake (z_kJ hb) _ _, z_ms (z_k0 hb), if_neg c1, if_neg c2, if_pos c3, z_taken hC, nI_clamp (show d' < 2 ^ 31 by omega), nI_clamp (show c' < 2 ^ 31 by omega)]
        rw [if_neg (by decide : ¬ (0 : Int32) < 0)]
      · rw [if_neg c3] at e
        refine z_e hT e h3 (by decide) (fun K hb => ?_)
        rw [h_stake (z_kJ hb) d c, z_ms (z_k0 hb), if_neg c1, if_neg c2, if_neg c3]
        rfl
/-- what the model asks of diggers' claims -/
theorem z_kD {M K : m_Mem} (h : r_C M 0 (K 16 0 0) N B) : ∀ d, d < N → K 16 0 0 (13 + 8 * d + 2) < 0 ∨ ∃ c, c < 10 ∧ K 16 0 0 (13 + 8 * d + 2) = nI c ∧ K 16 0 0 (77 + 6 * c + 1) = nI d := by
  intro d hd
  have e := h.2.1.1 d hd 2 (by decide)
  rw [← e]
  rcases h.2.2.2.2.1.2 d hd with q | ⟨c, c1, c2, c3⟩
  · exact Or.inl (by rw [q]; decide)
  · exact Or.inr ⟨c, c1, c2, by rw [← (h.2.2.1 c c1).2.1]; exact c3⟩
theorem z_kD2 {M K : m_Mem} (h : r_C M 0 (K 16 0 0) N B) : ∀ d, d < N → K 16 0 0 (13 + 8 * d + 2) < 0 ∨ ∃ c, c < 10 ∧ K 16 0 0 (13 + 8 * d + 2) = nI c := fun d hd => (z_kD h d hd).imp id (fun ⟨c, c1, c2, _⟩ => ⟨c, c1, c2⟩)
theorem z_12 {M K : m_Mem} (h : r_C M 0 (K 16 0 0) N B) : ¬ K 16 0 0 12 = 0 := by
  rw [← h.1.2.2.2.2.2.2.2.2]
  intro q
  have := h.2.2.2.2.2.1.2.2.2.2.2.2.1
  rw [q] at this
  exact absurd this (by decide)
theorem z_leave (hT : r_T M M n N B L) (h1 : f "java/lang/IndexOutOfBoundsException" = some 1) (h2 : f "java/lang/IllegalStateException" = some 2) (d : Int32) : z_S 65 135 [.ref (m_lc 1 0 0), .int d] [.ref (m_lc 15 0 0), .int d] M f := by
  have e := a_leave (z_fI hT) (z_C hT).2.2.2.2.1.2 d
  by_cases c1 : f_has d (M 7 0 0 5) 8 = 0
  · rw [if_pos c1] at e
    refine z_e hT e h1 (by decide) (fun K hb => ?_)
    rw [h_leave (z_kJ hb) (z_kD (z_C hb)) d, z_has hb, if_pos c1]
  · rw [if_neg c1] at e
    have hN := (z_C hT).1.1.1
    obtain ⟨d', d1, rfl⟩ := z_hasd hT c1
    have dc := nI_clamp (show d' < 2 ^ 31 by omega)
    rw [dc] at e
    by_cases c2 : M 12 0 d' 2 = -1
    · rw [if_pos c2] at e
      refine z_e hT e h2 (by decide) (fun K hb => ?_)
      rw [h_leave (z_kJ hb) (z_kD (z_C hb)) _, z_has hb, if_neg c1, dc, if_pos ((z_own (z_C hb) d1).2.mpr c2)]
    · rw [if_neg c2] at e
      rcases (z_C hT).2.2.2.2.1.2 d' d1 with q | ⟨c', k1, k2, k3⟩
      · exact absurd q c2
      · rw [k2, nI_clamp (show c' < 2 ^ 31 by omega)] at e
        refine z_now hT e (fun a b c k h => w_take h) (fun K hb => ?_)
        have ek := (z_C hb).2.1.1 d' d1 2 (by decide)
        rw [k2] at ek
        refine ⟨k_fr (k_sv (k_0 K) n) d' c', ?_, fun a b c k h => w_free h, N, B, o_free (d := d') (c := c') (z_C (z_sv hb)) d1 k1 ((f_sv_o M n 13 0 c' 1 (by decide) (by decide) (by decide)).trans k3)⟩
        rw [h_leave (z_kJ hb) (z_kD (z_C hb)) _, z_has hb, if_neg c1, dc, if_neg (fun z => c2 ((z_own (z_C hb) d1).2.mp z)), ← ek, nI_clamp (show c' < 2 ^ 31 by omega)]
theorem z_vein (hT : r_T M M n N B L) (h1 : f "java/lang/IllegalArgumentException" = some 1) (c v : Int32) : z_S 66 136 [.ref (m_lc 1 0 0), .int c, .int v] [.ref (m_lc 15 0 0), .int c, .int v] M f := by
  have e := a_vein (z_fI hT) c v
  by_cases c1 : f_bw c 0 9 = 0
  · rw [if_pos c1] at e
    exact z_e hT e h1 (by decide) (fun K hb => (h_vein (z_kJ hb) c v).trans (if_pos c1))
  · rw [if_neg c1] at e
    by_cases c2 : f_bw v 500 1000 = 0
    · rw [if_pos c2] at e
      refine z_e hT e h1 (by decide) (fun K hb => ?_)
      rw [h_vein (z_kJ hb) c v, if_neg c1, if_pos c2]
    · rw [if_neg c2] at e
      obtain ⟨c', k1, rfl⟩ := f_bw_0n (U := 9) ((f_bw_c c 0 9).resolve_right c1) (by decide)
      have cc := nI_clamp (show c' < 2 ^ 31 by omega)
      rw [cc] at e
      refine z_now hT e (fun a b c k h => m_set_n (by omega)) (fun K hb => ?_)
      refine ⟨m_set (k_sv (k_0 K) n) 16 0 0 (77 + 6 * c' + 0) v, ?_, fun a b c k h => m_set_n (by omega), N, B, o_vein (c := c') (f := v) (z_C (z_sv hb)) (by omega) (f_bw_1 ((f_bw_c v 500 1000).resolve_right c2))⟩
      rw [h_vein (z_kJ hb) _ v, if_neg c1, if_neg c2, cc, ← ((z_C hb).2.2.1 c' (by omega)).1]
theorem z_weigh (hT : r_T M M n N B L) (h1 : f "java/lang/IndexOutOfBoundsException" = some 1) (h2 : f "java/lang/IllegalArgumentException" = some 2) (h3 : f "java/lang/IllegalStateException" = some 3) (d g : Int32) : z_S 67 137 [.ref (m_lc 1 0 0), .int d, .int g] [.ref (m_lc 15 0 0), .int d, .int g] M f := by
  have e := a_weigh (z_fI hT) (z_C hT).2.2.2.2.1.2 d g
  by_cases c1 : f_has d (M 7 0 0 5) 8 = 0
  · rw [if_pos c1] at e
    refine z_e hT e h1 (by decide) (fun K hb => ?_)
    rw [h_weigh (z_kJ hb) (z_kD2 (z_C hb)) (z_12 (z_C hb)) d g, z_mw (z_k0 hb), if_pos c1]
    rfl
  · rw [if_neg c1] at e
    by_cases c2 : f_bw g 1 9999 = 0
    · rw [if_pos c2] at e
      refine z_e hT e h2 (by decide) (fun K hb => ?_)
      rw [h_weigh (z_kJ hb) (z_kD2 (z_C hb)) (z_12 (z_C hb)) d g, z_mw (z_k0 hb), if_neg c1, if_pos c2]
      rfl
    · rw [if_neg c2] at e
      by_cases c3 : ¬ M 12 0 d.toNatClampNeg 2 = -1 ∧ M 14 0 12 0 + g ≤ 99999
      · rw [if_pos c3] at e
        have hN := (z_C hT).1.1.1
        obtain ⟨d', d1, rfl⟩ := z_hasd hT c1
        have dc := nI_clamp (show d' < 2 ^ 31 by omega)
        have c4 := c3
        rw [dc] at c4 e
        rcases (z_C hT).2.2.2.2.1.2 d' d1 with q | ⟨c', k1, k2, k3⟩
        · exact absurd q c4.1
        · rw [k2, nI_clamp (show c' < 2 ^ 31 by omega)] at e
          refine z_now hT e (fun a b c k h => w_wi h) (fun K hb => ?_)
          have ek := (z_C hb).2.1.1 d' d1 2 (by decide)
          rw [k2] at ek
          refine ⟨k_wi (k_sv (k_0 K) n) d' c' g, ?_, fun a b c k h => w_wk h, N, B, o_weigh (d := d') (c := c') (g := g) (z_C (z_sv hb)) d1 k1 ((f_sv_o M n 12 0 d' 2 (by decide) (by decide) (by decide)).trans k2) (f_bw_1 ((f_bw_c g 1 9999).resolve_right c2)) (by rw [f_sv_o M n 14 0 12 0 (by decide) (by decide) (by decide)]; exact c4.2)⟩
          rw [h_weigh (z_kJ hb) (z_kD2 (z_C hb)) (z_12 (z_C hb)) _ g, z_mw (z_k0 hb), if_neg c1, if_neg c2, if_pos c3, dc, ← ek, nI_clamp (show c' < 2 ^ 31 by omega), ← p_pay (z_C (z_sv hb)).1]
          rw [if_neg (by decide : ¬ (0 : Int32) < 0)]
      · rw [if_neg c3] at e
        refine z_e hT e h3 (by decide) (fun K hb => ?_)
        rw [h_weigh (z_kJ hb) (z_kD2 (z_C hb)) (z_12 (z_C hb)) d g, z_mw (z_k0 hb), if_neg c1, if_neg c2, if_neg c3]
        rfl
theorem f_da_sv (d : Nat) (g : Int32) : f_da (f_sv M n) 0 d g = f_da M 0 d g := by
  unfold f_da
  rw [f_sv_o M n 12 0 d 0 (by decide) (by decide) (by decide), f_sv_o M n 12 0 d 1 (by decide) (by decide) (by decide)]
theorem z_buy (hT : r_T M M n N B L) (h1 : f "java/lang/IndexOutOfBoundsException" = some 1) (h2 : f "java/lang/IllegalArgumentException" = some 2) (h3 : f "java/lang/IllegalStateException" = some 3) (d g : Int32) : z_S 68 138 [.ref (m_lc 1 0 0), .int d, .int g] [.ref (m_lc 15 0 0), .int d, .int g] M f := by
  have e := a_buy (z_fI hT) d g
  by_cases c1 : f_has d (M 7 0 0 5) 8 = 0
  · rw [if_pos c1] at e
    refine z_e hT e h1 (by decide) (fun K hb => ?_)
    rw [h_buy (z_kJ hb) d g, z_mb (z_k0 hb), if_pos c1]
    rfl
  · rw [if_neg c1] at e
    by_cases c2 : f_bw g 1 9999 = 0
    · rw [if_pos c2] at e
      refine z_e hT e h2 (by decide) (fun K hb => ?_)
      rw [h_buy (z_kJ hb) d g, z_mb (z_k0 hb), if_neg c1, if_pos c2]
      rfl
    · rw [if_neg c2] at e
      by_cases c3 : f_da M 0 d.toNatClampNeg g ≤ 5000
      · rw [if_pos c3] at e
        have hN := (z_C hT).1.1.1
        obtain ⟨d', d1, rfl⟩ := z_hasd hT c1
        have dc := nI_clamp (show d' < 2 ^ 31 by omega)
        have e2 := e
        rw [dc] at e2
        refine z_now hT e2 (fun a b c k h => w_sp h) (fun K hb => ?_)
        have hC := o_buy (d := d') (g := g) (z_C (z_sv hb)) d1
        refine ⟨k_bu (k_sv (k_0 K) n) d' g, ?_, fun a b c k h => w_bu h, N, B, hC⟩
        rw [h_buy (z_kJ hb) _ g, z_mb (z_k0 hb), if_neg c1, if_neg c2, if_pos c3, dc, ← hC.2.1.1 d' d1 1 (by decide)]
        rw [if_neg (by decide : ¬ (0 : Int32) < 0)]
      · rw [if_neg c3] at e
        refine z_e hT e h3 (by decide) (fun K hb => ?_)
        rw [h_buy (z_kJ hb) d g, z_mb (z_k0 hb), if_neg c1, if_neg c2, if_neg c3]
        rfl
theorem z_meltc (hT : r_T M M n N B L) (h1 : f "java/lang/IllegalStateException" = some 1) : z_S 69 139 [.ref (m_lc 1 0 0)] [.ref (m_lc 15 0 0)] M f := by
  have e := a_melt (z_fI hT)
  by_cases c1 : 0 < M 14 0 12 0 ∧ B < 12
  · rw [if_pos c1] at e
    refine z_now hT e (fun a b c k h => w_melt h) (fun K hb => ?_)
    have hl : 0 < f_sv M n 14 0 12 0 := by
      rw [f_sv_o M n 14 0 12 0 (by decide) (by decide) (by decide)]
      exact c1.1
    have h5 := (z_C (z_sv hb)).1.2.1.2.2
    refine ⟨k_me (k_sv (k_0 K) n) B, ?_, fun a b c k h => w_me h, N, B + 1, o_melt (z_C (z_sv hb)) c1.2 hl⟩
    rw [h_melt (z_kJ hb), if_pos ((z_melt hb).mpr c1)]
    have h6 : k_mt (k_sv (k_0 K) n) B 3 16 0 0 5 = nI B := by
      simp (disch := omega) only [k_mt, m_set_n]
      exact h5
    rw [h6, Int32.add_sub_cancel]
  · rw [if_neg c1] at e
    exact z_e hT e h1 (by decide) (fun K hb => (h_melt (z_kJ hb)).trans (if_neg (fun z => c1 ((z_melt hb).mp z))))
theorem z_adjust (hT : r_T M M n N B L) (h1 : f "java/lang/IllegalArgumentException" = some 1) (v : Int32) : z_S 70 140 [.ref (m_lc 1 0 0), .int v] [.ref (m_lc 15 0 0), .int v] M f := by
  have e := a_adjust (z_fI hT) v
  by_cases c1 : f_bw v (-50) 50 = 0
  · rw [if_pos c1] at e
    exact z_e hT e h1 (by decide) (fun K hb => (h_adjust (z_kJ hb) v).trans (if_pos c1))
  · rw [if_neg c1] at e
    refine z_now hT e (fun a b c k h => by simp (disch := omega) only [m_set_n, m_set_i]) (fun K hb => ?_)
    refine ⟨m_set (m_set (k_sv (k_0 K) n) 16 0 0 6 v) 16 0 0 7 0, ?_, fun a b c k h => by simp (disch := omega) only [m_set_n, m_set_i], N, B, o_adjust (z_C (z_sv hb)) (f_bw_1 ((f_bw_c v (-50) 50).resolve_right c1))⟩
    rw [h_adjust (z_kJ hb) v, if_neg c1, ← (z_C hb).1.2.2.1.2.1]
theorem z_set (hT : r_T M M n N B L) (h1 : f "java/lang/IndexOutOfBoundsException" = some 1) (h2 : f "java/lang/IllegalArgumentException" = some 2) (t v : Int32) : z_S 72 144 [.ref (m_lc 1 0 0), .int t, .int v] [.ref (m_lc 15 0 0), .int t, .int v] M f := by
  have e := a_set (z_fI hT) hT.2.2.2.2.2.2.2.1 hT.2.2.2.2.2.2.2.2 t v
  by_cases c1 : f_bw t 0 4 = 0
  · rw [if_pos c1] at e
    exact z_e hT e h1 (by decide) (fun K hb => (h_set (z_kJ hb) t v).trans (if_pos c1))
  · rw [if_neg c1] at e
    by_cases c2 : f_bw v (m_s24 t.toNatClampNeg) (m_s25 t.toNatClampNeg) = 0
    · rw [if_pos c2] at e
      refine z_e hT e h2 (by decide) (fun K hb => ?_)
      rw [h_set (z_kJ hb) t v, if_neg c1, if_pos c2]
    · rw [if_neg c2] at e
      obtain ⟨t', k1, rfl⟩ := f_bw_0n (U := 4) ((f_bw_c t 0 4).resolve_right c1) (by decide)
      have tc := nI_clamp (show t' < 2 ^ 31 by omega)
      have c3 := c2
      rw [tc] at e c3
      refine z_now hT e (fun a b c k h => m_set_n (by omega)) (fun K hb => ?_)
      refine ⟨m_set (k_sv (k_0 K) n) 16 0 0 (8 + t') v, ?_, fun a b c k h => m_set_n (by omega), N, B, o_set (t := t') (v := v) (z_C (z_sv hb)) (by omega) (f_bw_1 ((f_bw_c v _ _).resolve_right c3))⟩
      rw [h_set (z_kJ hb) _ v, if_neg c1, if_neg c2, tc]
      obtain ⟨s0, s1, s2, s3, s4⟩ := (z_C hb).1.2.2.2.2
      have ht : t' = 0 ∨ t' = 1 ∨ t' = 2 ∨ t' = 3 ∨ t' = 4 := by omega
      rcases ht with rfl | rfl | rfl | rfl | rfl
      · rw [s0]
      · rw [s1]
      · rw [s2]
      · rw [s3]
      · rw [s4]
theorem z_pass (hT : r_T M M n N B L) (h1 : f "java/lang/IllegalArgumentException" = some 1) (h2 : f "java/lang/IllegalStateException" = some 2) (v : Int32) : z_S 71 141 [.ref (m_lc 1 0 0), .int v] [.ref (m_lc 15 0 0), .int v] M f := by
  have e7 : f_sv M n 7 0 0 7 = M 7 0 0 7 := f_sv_o M n 7 0 0 7 (by decide) (by decide) (by decide)
  have v30 : f_bw v 1 30 = 1 → ∃ v', v' ≤ 30 ∧ v = nI v' := fun hb => nI_upto (N := 30) (Int32.le_trans (by decide) (f_bw_1 hb).1) (f_bw_1 hb).2 (by decide)
  have hE : ∀ K, r_T M K n N B L → f_bw v 1 30 = 1 → M 7 0 0 7 + v ≤ 9999 → ∀ i, i ≤ v.toNatClampNeg → r_C (f_dn (f_sv M n) i) 0 (k_dn (k_sv (k_0 K) n) i 16 0 0) N B ∧ f_dl (f_sv M n) i = k_dl (k_sv (k_0 K) n) i := by
    intro K hb q1 q2 i hi
    obtain ⟨v', k1, rfl⟩ := v30 q1
    rw [nI_clamp (by omega)] at hi
    obtain ⟨g1, g2, -⟩ := o_dn (z_C (z_sv hb)) (v := v') k1 (by rw [e7]; exact q2) i hi
    exact ⟨g1, g2⟩
  have e := a_pass (z_fI hT) v (fun q1 q2 i hi => o_fok (hE M hT q1 q2 i (by omega)).1)
  have eK := fun K (hb : r_T M K n N B L) => h_pass (z_kJ hb) v (fun q1 q2 i hi => o_kok (hE K hb q1 (by rw [(z_C hb).1.2.2.1.1]; exact q2) i (by omega)).1)
  by_cases c1 : f_bw v 1 30 = 0
  · rw [if_pos c1] at e
    exact z_e hT e h1 (by decide) (fun K hb => (eK K hb).trans (if_pos c1))
  · rw [if_neg c1] at e
    have c1' := (f_bw_c v 1 30).resolve_right c1
    by_cases c2 : M 7 0 0 7 + v ≤ 9999
    · rw [if_pos c2] at e
      refine z_now hT e (fun a b c k h => w_dn h _) (fun K hb => ?_)
      obtain ⟨g1, g2⟩ := hE K hb c1' c2 v.toNatClampNeg (Nat.le_refl _)
      refine ⟨k_dn (k_sv (k_0 K) n) v.toNatClampNeg, ?_, fun a b c k h => w_kdn h _, N, B, g1⟩
      rw [eK K hb, if_neg c1, ← (z_C hb).1.2.2.1.1, if_pos c2, g2]
    · rw [if_neg c2] at e
      refine z_e hT e h2 (by decide) (fun K hb => ?_)
      rw [eK K hb, if_neg c1, ← (z_C hb).1.2.2.1.1, if_neg c2]
end CALLS
