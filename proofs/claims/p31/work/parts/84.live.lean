/-! A DAY IS LIVED: the class's orders and the law's sums, order by order. -/
section LIVE
variable {M K C : m_Mem} {n N B : Nat}
/-- an order done by the class over a row K: x tells whether it could be -/
def d_do (M K : m_Mem) (kd d g d' g' : Int32) (n N B : Nat) : Prop := ∃ x M2, m_cl 77 [.ref (m_lc 1 0 0), .int kd, .int d, .int g] M = some (.inl (some (.int x)), M2) ∧ (k_do K B kd d' g').1 = x ∧
  ((x = 1 ∧ (∃ B', y_W M2 (k_do K B kd d' g').2 n N B') ∧ (∀ a b c k, (b ≠ 0 ∨ a < 7 ∨ 15 ≤ a) → M2 a b c k = M a b c k)) ∨ (x = 0 ∧ M2 = M ∧ (k_do K B kd d' g').2 = K))
theorem d_w (hW : y_W M K n N B) (d g : Int32) : d_do M K 119 d g d g n N B := by
  have h := hW.2.2.1
  have hI := y_fI hW
  have e := a_fWeigh hI h.2.2.2.2.1.2 d g
  have ek : k_do K B 119 d g = if 0 < k_mw K d g then (0, K) else (1, k_wi K d.toNatClampNeg (K 16 0 0 (13 + 8 * d.toNatClampNeg + 2)).toNatClampNeg g) := by
    unfold k_do
    rw [if_neg (by decide), if_neg (by decide), if_neg (by decide), if_pos rfl]
  unfold d_do
  rw [ek, zc_mw h]
  have fin : ∀ q : Prop, m_cl 78 [.ref (m_lc 1 0 0), .int d, .int g] M = some (.inl (some (.int 0)), M) → m_cl 77 [.ref (m_lc 1 0 0), .int 119, .int d, .int g] M = some (.inl (some (.int 0)), M) := fun _ e => a_fo_w d g m_nok10 e
  by_cases c1 : f_has d (M 7 0 0 5) 8 = 0
  · rw [if_pos c1] at e ⊢
    rw [if_pos (by decide : (0 : Int32) < 1)]
    exact ⟨0, M, a_fo_w d g m_nok10 e, rfl, Or.inr ⟨rfl, rfl, rfl⟩⟩
  · rw [if_neg c1] at e ⊢
    by_cases c2 : f_bw g 1 9999 = 0
    · rw [if_pos c2] at e ⊢
      rw [if_pos (by decide : (0 : Int32) < 2)]
      exact ⟨0, M, a_fo_w d g m_nok10 e, rfl, Or.inr ⟨rfl, rfl, rfl⟩⟩
    · rw [if_neg c2] at e ⊢
      by_cases c3 : ¬ M 12 0 d.toNatClampNeg 2 = -1 ∧ M 14 0 12 0 + g ≤ 99999
      · rw [if_pos c3] at e ⊢
        rw [if_neg (by decide : ¬ (0 : Int32) < 0)]
        have hN := h.1.1.1
        obtain ⟨d', d1, rfl⟩ := zc_hasd h c1
        have dc := nI_clamp (show d' < 2 ^ 31 by omega)
        rw [dc] at c3 e ⊢
        rcases h.2.2.2.2.1.2 d' d1 with q | ⟨c', k1, k2, k3⟩
        · exact absurd q c3.1
        · have ek := h.2.1.1 d' d1 2 (by decide)
          rw [k2] at ek
          rw [k2, nI_clamp (show c' < 2 ^ 31 by omega)] at e
          rw [← ek, nI_clamp (show c' < 2 ^ 31 by omega)]
          exact ⟨1, _, a_fo_w _ g m_nok11 e, rfl, Or.inl ⟨rfl, ⟨B, y_weigh hW d1 k1 k2 (f_bw_1 ((f_bw_c g 1 9999).resolve_right c2)) c3.2⟩, fun a b c k h => w_wi h⟩⟩
      · rw [if_neg c3] at e ⊢
        rw [if_pos (by decide : (0 : Int32) < 3)]
        exact ⟨0, M, a_fo_w d g m_nok10 e, rfl, Or.inr ⟨rfl, rfl, rfl⟩⟩
theorem d_c (hW : y_W M K n N B) (d g : Int32) : d_do M K 99 d g d g n N B := by
  have h := hW.2.2.1
  have hI := y_fI hW
  have e := a_fStake hI d g
  have ek : k_do K B 99 d g = if 0 < k_ms K d g then (0, K) else (1, k_st K d.toNatClampNeg g.toNatClampNeg) := by
    unfold k_do
    rw [if_pos rfl]
  unfold d_do
  rw [ek, zc_ms h]
  by_cases c1 : f_has d (M 7 0 0 5) 8 = 0
  · rw [if_pos c1] at e ⊢
    rw [if_pos (by decide : (0 : Int32) < 1)]
    exact ⟨0, M, a_fo_c d g m_nok10 e, rfl, Or.inr ⟨rfl, rfl, rfl⟩⟩
  · rw [if_neg c1] at e ⊢
    by_cases c2 : f_bw g 0 9 = 0
    · rw [if_pos c2] at e ⊢
      rw [if_pos (by decide : (0 : Int32) < 2)]
      exact ⟨0, M, a_fo_c d g m_nok10 e, rfl, Or.inr ⟨rfl, rfl, rfl⟩⟩
    · rw [if_neg c2] at e ⊢
      by_cases c3 : M 12 0 d.toNatClampNeg 2 = -1 ∧ M 13 0 g.toNatClampNeg 1 = -1
      · rw [if_pos c3] at e ⊢
        rw [if_neg (by decide : ¬ (0 : Int32) < 0)]
        have hN := h.1.1.1
        obtain ⟨d', d1, rfl⟩ := zc_hasd h c1
        obtain ⟨c', k1, rfl⟩ := f_bw_0n (U := 9) ((f_bw_c g 0 9).resolve_right c2) (by decide)
        rw [nI_clamp (show d' < 2 ^ 31 by omega), nI_clamp (show c' < 2 ^ 31 by omega)] at c3 e
        rw [nI_clamp (show d' < 2 ^ 31 by omega), nI_clamp (show c' < 2 ^ 31 by omega)]
        exact ⟨1, _, a_fo_c _ _ m_nok11 e, rfl, Or.inl ⟨rfl, ⟨B, y_take hW d1 (show c' < 10 by omega) c3.2⟩, fun a b c k h => w_take h⟩⟩
      · rw [if_neg c3] at e ⊢
        rw [if_pos (by decide : (0 : Int32) < 3)]
        exact ⟨0, M, a_fo_c d g m_nok10 e, rfl, Or.inr ⟨rfl, rfl, rfl⟩⟩
theorem d_g (hW : y_W M K n N B) (d g : Int32) : d_do M K 103 d g d g n N B := by
  have h := hW.2.2.1
  have hI := y_fI hW
  have e := a_fBuy hI d g
  have ek : k_do K B 103 d g = if 0 < k_mb K d g then (0, K) else (1, k_bu K d.toNatClampNeg g) := by
    unfold k_do
    rw [if_neg (by decide), if_pos rfl]
  unfold d_do
  rw [ek, zc_mb h]
  by_cases c1 : f_has d (M 7 0 0 5) 8 = 0
  · rw [if_pos c1] at e ⊢
    rw [if_pos (by decide : (0 : Int32) < 1)]
    exact ⟨0, M, a_fo_g d g m_nok10 e, rfl, Or.inr ⟨rfl, rfl, rfl⟩⟩
  · rw [if_neg c1] at e ⊢
    by_cases c2 : f_bw g 1 9999 = 0
    · rw [if_pos c2] at e ⊢
      rw [if_pos (by decide : (0 : Int32) < 2)]
      exact ⟨0, M, a_fo_g d g m_nok10 e, rfl, Or.inr ⟨rfl, rfl, rfl⟩⟩
    · rw [if_neg c2] at e ⊢
      by_cases c3 : f_da M 0 d.toNatClampNeg g ≤ 5000
      · rw [if_pos c3] at e ⊢
        rw [if_neg (by decide : ¬ (0 : Int32) < 0)]
        have hN := h.1.1.1
        obtain ⟨d', d1, rfl⟩ := zc_hasd h c1
        rw [nI_clamp (show d' < 2 ^ 31 by omega)] at e
        rw [nI_clamp (show d' < 2 ^ 31 by omega)]
        exact ⟨1, _, a_fo_g _ _ m_nok11 e, rfl, Or.inl ⟨rfl, ⟨B, y_buy hW d1 (f_bw_1 ((f_bw_c g 1 9999).resolve_right c2)) (by have := c3; rw [nI_clamp (show d' < 2 ^ 31 by omega)] at this; exact this)⟩, fun a b c k h => w_sp h⟩⟩
      · rw [if_neg c3] at e ⊢
        rw [if_pos (by decide : (0 : Int32) < 3)]
        exact ⟨0, M, a_fo_g d g m_nok10 e, rfl, Or.inr ⟨rfl, rfl, rfl⟩⟩
theorem d_m (hW : y_W M K n N B) (d g d' g' : Int32) : d_do M K 109 d g d' g' n N B := by
  have h := hW.2.2.1
  have hI := y_fI hW
  have e := a_fMelt hI
  have ek : k_do K B 109 d' g' = if 0 < K 16 0 0 2 ∧ B < 12 then (1, k_me K B) else (0, K) := by
    unfold k_do
    rw [if_neg (by decide), if_neg (by decide), if_pos rfl]
  unfold d_do
  rw [ek, ← h.1.2.2.2.1.1]
  by_cases c1 : 0 < M 14 0 12 0 ∧ B < 12
  · rw [if_pos c1] at e ⊢
    exact ⟨1, _, a_fo_m _ _ m_nok11 e, rfl, Or.inl ⟨rfl, ⟨B + 1, y_melt hW c1.2 c1.1⟩, fun a b c k h => w_melt h⟩⟩
  · rw [if_neg c1] at e ⊢
    exact ⟨0, M, a_fo_m d g m_nok10 e, rfl, Or.inr ⟨rfl, rfl, rfl⟩⟩
theorem d_n (hW : y_W M K n N B) (d g d' g' : Int32) : d_do M K 110 d g d' g' n N B := by
  have h := hW.2.2.1
  have e := a_fPass (o_fok h)
  have ek : k_do K B 110 d' g' = if K 16 0 0 0 = 9999 then (0, K) else (1, k_dy K) := by
    unfold k_do
    rw [if_neg (by decide), if_neg (by decide), if_neg (by decide), if_neg (by decide)]
  have hV := h.2.2.2.2.2.1.1
  obtain ⟨k, k1, k2⟩ := nI_upto (N := 9999) hV.1 hV.2 (by decide)
  have hq : M 7 0 0 7 + 1 ≤ 9999 ↔ ¬ M 7 0 0 7 = 9999 := by
    rw [k2, nI_1]
    have a1 : nI (k + 1) ≤ 9999 ↔ k + 1 ≤ 9999 := nI_leI (a := k + 1) (b := 9999) (by omega) (by decide)
    have a2 : nI k = 9999 ↔ k = 9999 := nI_eq (a := k) (b := 9999) (by omega) (by decide)
    rw [a1, a2]
    omega
  unfold d_do
  rw [ek, ← h.1.2.2.1.1]
  by_cases c1 : M 7 0 0 7 + 1 ≤ 9999
  · rw [if_pos c1] at e
    rw [if_neg (hq.mp c1)]
    exact ⟨1, _, a_fo_n _ _ m_nok11 e, rfl, Or.inl ⟨rfl, ⟨B, (y_day hW c1).1⟩, fun a b c k h => w_dy h⟩⟩
  · rw [if_neg c1] at e
    rw [if_pos (Decidable.byContradiction (fun z => c1 (hq.mpr z)))]
    exact ⟨0, M, a_fo_n d g m_nok10 e, rfl, Or.inr ⟨rfl, rfl, rfl⟩⟩
/-- the law's sum of an order -/
def y_L (E : Option m_R) (M K : m_Mem) (r : Int32 × m_Mem) : Prop := ∃ v M1, E = some (.inl (some (.int v)), M1) ∧ ((0 ≤ v ∧ r.1 = 1) ∨ (v < 0 ∧ r.1 = 0 ∧ r.2 = K)) ∧ y_K M1 = r.2 ∧ y_f r.2 ∧ (∀ a b c k, (a < 16 ∨ 19 < a) → M1 a b c k = M a b c k)
theorem k_tk_0 (K : m_Mem) : ∀ m, ∃ t, t ≤ m ∧ k_tk K m = nI t
  | 0 => ⟨0, Nat.le_refl _, rfl⟩
  | m + 1 => by
    obtain ⟨t, t1, t2⟩ := k_tk_0 K m
    show ∃ t, t ≤ m + 1 ∧ (if K 16 0 0 (77 + 6 * m + 1) < 0 then k_tk K m + 0 else k_tk K m + 1) = nI t
    split
    · exact ⟨t, by omega, by rw [t2, Int32.add_zero]⟩
    · exact ⟨t + 1, by omega, by rw [t2, nI_1]⟩
theorem k_ln_0 (K : m_Mem) : ∀ m, ∃ t, t ≤ m ∧ k_ln K m = nI t
  | 0 => ⟨0, Nat.le_refl _, rfl⟩
  | m + 1 => by
    obtain ⟨t, t1, t2⟩ := k_ln_0 K m
    show ∃ t, t ≤ m + 1 ∧ k_ln K m + k_l1 (k_pn K m) m = nI t
    unfold k_l1
    split
    · exact ⟨t, by omega, by rw [t2, Int32.add_zero]⟩
    · split
      · exact ⟨t, by omega, by rw [t2, Int32.add_zero]⟩
      · exact ⟨t + 1, by omega, by rw [t2, nI_1]⟩
theorem y_isd (hN : K 16 0 0 1 = nI N) (hN8 : N ≤ 8) {d : Nat} (hd : d < 16) : f_is (nI d) (K 16 0 0 1) = if N ≤ d then 0 else 1 := by
  unfold f_is
  rw [hN]
  by_cases h : N ≤ d
  · rw [if_pos h, if_neg (fun q => absurd q.2 (nI_nlt h (by omega)))]
  · rw [if_neg h, if_pos ⟨nI_pos' (by omega), nI_lt (by omega) (by omega)⟩]
theorem o_w (h : y_W C K n N B) (hK : y_K M = K) (hf : y_f K) (d g : Nat) (hd : d < 8) (hg : 1 ≤ g ∧ g ≤ 9999) : y_L (m_cl 105 [.ref (m_lc 16 0 0), .ref (m_lc 17 0 0), .ref (m_lc 18 0 0), .int (nI d), .int (nI g)] M) M K (k_do K B 119 (nI d) (nI g)) := by
  subst hK
  have hA := h.2.2.1.1
  have hN8 := hA.1.1
  have hN := hA.1.2.2
  have hN2 : M 16 0 0 1 = nI N := by rw [← y_16 (M := M) (show 1 < 13 by decide)]; exact hN
  have h12 : ¬ M 16 0 0 12 = 0 := by rw [← y_16 (M := M) (show 12 < 13 by decide)]; exact z_12 h.2.2.1
  have hc : d < N → M 17 0 0 (8 * d + 2) < 0 ∨ ∃ q, q < 10 ∧ M 17 0 0 (8 * d + 2) = nI q := fun hd2 => by
    have := z_kD2 h.2.2.1 d hd2
    rw [y_17 hd (by decide)] at this
    exact this
  have l := l_weighs hN2 hN8 h12 d (by omega) (nI g) hc
  have cd : (nI d).toNatClampNeg = d := nI_clamp (by omega)
  have hbw : f_bw (nI g) 1 9999 = 1 := y_bw (l := 1) (u := 9999) hg.1 hg.2 (by decide)
  have ek : k_do (y_K M) B 119 (nI d) (nI g) = if 0 < k_mw (y_K M) (nI d) (nI g) then (0, y_K M) else (1, k_wi (y_K M) (nI d).toNatClampNeg (y_K M 16 0 0 (13 + 8 * (nI d).toNatClampNeg + 2)).toNatClampNeg (nI g)) := by
    unfold k_do
    rw [if_neg (by decide), if_neg (by decide), if_neg (by decide), if_pos rfl]
  have em : k_mw (y_K M) (nI d) (nI g) = if N ≤ d then 1 else if M 17 0 0 (8 * d + 2) < 0 ∨ 99999 < nI g + M 16 0 0 2 then 3 else 0 := by
    unfold k_mw
    rw [y_isd hN hN8 (by omega), hbw, cd, y_17 hd (by decide), y_16 (by decide), Int32.add_comm (M 16 0 0 2)]
    by_cases h1 : N ≤ d
    · rw [if_pos h1, if_pos rfl, if_pos h1]
    · rw [if_neg h1, if_neg (by decide), if_neg (by decide), if_neg h1]
  rw [ek, em, cd, y_17 hd (by decide)]
  by_cases h1 : N ≤ d
  · rw [if_pos h1] at l ⊢
    rw [if_pos (by decide)]
    exact ⟨_, _, l, Or.inr ⟨by decide, rfl, rfl⟩, rfl, hf, fun _ _ _ _ _ => rfl⟩
  · rw [if_neg h1] at l ⊢
    by_cases h2 : M 17 0 0 (8 * d + 2) < 0 ∨ 99999 < nI g + M 16 0 0 2
    · rw [if_pos h2] at l ⊢
      rw [if_pos (by decide)]
      exact ⟨_, _, l, Or.inr ⟨by decide, rfl, rfl⟩, rfl, hf, fun _ _ _ _ _ => rfl⟩
    · rw [if_neg h2] at l ⊢
      rw [if_neg (by decide)]
      obtain ⟨q, hq, ho⟩ := (hc (by omega)).resolve_left (fun z => h2 (Or.inl z))
      have h6 : M 16 0 0 6 ≤ 50 := by
        have h8 := hA.2.2.1.2.1
        rw [y_16 (by decide)] at h8
        rw [← h8]
        exact h.2.2.1.2.2.2.2.2.1.2.1.2
      obtain ⟨p, p1, p2⟩ := y_pay h.2.2.1.2.2.2.2.2.1 hg.2
      rw [p_pay hA, ← y_pays] at p2
      rw [ho, nI_clamp (by omega)] at l ⊢
      rw [p2] at l
      refine ⟨_, _, l, Or.inl ⟨nI_pos' (by omega), rfl⟩, y_wi hd hq (nI g) h6, y_f_wi hf hd hq, fun a b c k hh => w_lwi hh⟩
theorem o_c (h : y_W C K n N B) (hK : y_K M = K) (hf : y_f K) (d q : Nat) (hd : d < 8) (hq : q < 10) : y_L (m_cl 103 [.ref (m_lc 16 0 0), .ref (m_lc 17 0 0), .ref (m_lc 18 0 0), .int (nI d), .int (nI q)] M) M K (k_do K B 99 (nI d) (nI q)) := by
  subst hK
  have hA := h.2.2.1.1
  have hN8 := hA.1.1
  have hN := hA.1.2.2
  have hN2 : M 16 0 0 1 = nI N := by rw [← y_16 (M := M) (show 1 < 13 by decide)]; exact hN
  have l := l_stakes hN2 hN8 d q (by omega) hq
  have cd : (nI d).toNatClampNeg = d := nI_clamp (by omega)
  have cq : (nI q).toNatClampNeg = q := nI_clamp (by omega)
  have hbw : f_bw (nI q) 0 9 = 1 := y_bw (l := 0) (u := 9) (by omega) (by omega) (by decide)
  have ek : k_do (y_K M) B 99 (nI d) (nI q) = if 0 < k_ms (y_K M) (nI d) (nI q) then (0, y_K M) else (1, k_st (y_K M) (nI d).toNatClampNeg (nI q).toNatClampNeg) := by
    unfold k_do
    rw [if_pos rfl]
  have em : k_ms (y_K M) (nI d) (nI q) = if N ≤ d then 1 else if 0 ≤ M 17 0 0 (8 * d + 2) ∨ 0 ≤ M 18 0 0 (6 * q + 1) then 3 else 0 := by
    unfold k_ms
    rw [y_isd hN hN8 (by omega), hbw, cd, cq, y_17 hd (by decide), y_18 hq (by decide)]
    by_cases h1 : N ≤ d
    · rw [if_pos h1, if_pos rfl, if_pos h1]
    · rw [if_neg h1, if_neg (by decide), if_neg (by decide), if_neg h1]
  rw [ek, em, cd, cq]
  by_cases h1 : N ≤ d
  · rw [if_pos h1] at l ⊢
    rw [if_pos (by decide)]
    exact ⟨_, _, l, Or.inr ⟨by decide, rfl, rfl⟩, rfl, hf, fun _ _ _ _ _ => rfl⟩
  · rw [if_neg h1] at l ⊢
    by_cases h2 : 0 ≤ M 17 0 0 (8 * d + 2) ∨ 0 ≤ M 18 0 0 (6 * q + 1)
    · rw [if_pos h2] at l ⊢
      rw [if_pos (by decide)]
      exact ⟨_, _, l, Or.inr ⟨by decide, rfl, rfl⟩, rfl, hf, fun _ _ _ _ _ => rfl⟩
    · rw [if_neg h2] at l ⊢
      rw [if_neg (by decide)]
      obtain ⟨t, t1, t2⟩ := k_tk_0 (y_K (l_st M d q)) 10
      rw [t2] at l
      exact ⟨_, _, l, Or.inl ⟨nI_pos' (by omega), rfl⟩, y_st M hd hq, y_f_st hf hd hq, fun a b c k hh => w_lst hh⟩
theorem o_g (h : y_W C K n N B) (hK : y_K M = K) (hf : y_f K) (d g : Nat) (hd : d < 8) (hg : 1 ≤ g ∧ g ≤ 9999) : y_L (m_cl 106 [.ref (m_lc 16 0 0), .ref (m_lc 17 0 0), .int (nI d), .int (nI g)] M) M K (k_do K B 103 (nI d) (nI g)) := by
  subst hK
  have hA := h.2.2.1.1
  have hN8 := hA.1.1
  have hN := hA.1.2.2
  have hN2 : M 16 0 0 1 = nI N := by rw [← y_16 (M := M) (show 1 < 13 by decide)]; exact hN
  have l := l_buys hN2 hN8 d (by omega) (nI g)
  have cd : (nI d).toNatClampNeg = d := nI_clamp (by omega)
  have hbw : f_bw (nI g) 1 9999 = 1 := y_bw (l := 1) (u := 9999) hg.1 hg.2 (by decide)
  have ek : k_do (y_K M) B 103 (nI d) (nI g) = if 0 < k_mb (y_K M) (nI d) (nI g) then (0, y_K M) else (1, k_bu (y_K M) (nI d).toNatClampNeg (nI g)) := by
    unfold k_do
    rw [if_neg (by decide), if_pos rfl]
  have w1 : y_K M 16 0 0 (13 + 8 * d + 1) + k_lk (y_K M) d (nI g) = M 17 0 0 (8 * d + 1) + nI g - (if nI g < M 17 0 0 (8 * d) then nI g else M 17 0 0 (8 * d)) := by
    unfold k_lk
    have e0 : y_K M 16 0 0 (13 + 8 * d + 0) = M 17 0 0 (8 * d) := y_170 hd
    rw [e0, y_17 hd (by decide), i_lk, Int32.sub_eq_add_neg, Int32.sub_eq_add_neg, Int32.add_assoc]
  have em : k_mb (y_K M) (nI d) (nI g) = if N ≤ d then 1 else if 5000 < M 17 0 0 (8 * d + 1) + nI g - (if nI g < M 17 0 0 (8 * d) then nI g else M 17 0 0 (8 * d)) then 3 else 0 := by
    unfold k_mb
    rw [y_isd hN hN8 (by omega), hbw, cd, w1]
    by_cases h1 : N ≤ d
    · rw [if_pos h1, if_pos rfl, if_pos h1]
    · rw [if_neg h1, if_neg (by decide), if_neg (by decide), if_neg h1]
  rw [ek, em, cd]
  by_cases h1 : N ≤ d
  · rw [if_pos h1] at l ⊢
    rw [if_pos (by decide)]
    exact ⟨_, _, l, Or.inr ⟨by decide, rfl, rfl⟩, rfl, hf, fun _ _ _ _ _ => rfl⟩
  · rw [if_neg h1] at l ⊢
    by_cases h2 : 5000 < M 17 0 0 (8 * d + 1) + nI g - (if nI g < M 17 0 0 (8 * d) then nI g else M 17 0 0 (8 * d))
    · rw [if_pos h2] at l ⊢
      rw [if_pos (by decide)]
      exact ⟨_, _, l, Or.inr ⟨by decide, rfl, rfl⟩, rfl, hf, fun _ _ _ _ _ => rfl⟩
    · rw [if_neg h2] at l ⊢
      rw [if_neg (by decide)]
      have hd8 : d < N := by omega
      have hT := y_buy h (g := nI g) hd8 ⟨nI_le hg.1 (by omega), nI_le hg.2 (by decide)⟩ (by rw [z_lk h.2.2.1 hd8, w1]; exact Int32.not_lt.mp h2)
      have hKb := y_bu (M := M) hd (nI g)
      obtain ⟨s, t, q, y, g', ⟨a1, a2, a3, a4, a5⟩, r⟩ := hT.2.2.2.1.1 d hd8
      rw [hT.2.2.1.2.1.1 d hd8 1 (by decide), ← hKb, y_17 hd (by decide)] at a2
      rw [a2] at l
      exact ⟨_, _, l, Or.inl ⟨nI_pos' (by omega), rfl⟩, hKb, y_f_bu hf hd, fun a b c k hh => w_lbu hh⟩
theorem o_m (h : y_W C K n N B) (hK : y_K M = K) (hf : y_f K) (d g : Int32) : y_L (m_cl 107 [.ref (m_lc 16 0 0), .ref (m_lc 19 0 0)] M) M K (k_do K B 109 d g) := by
  subst hK
  have hC := h.2.2.1
  have hA := hC.1
  have hB12 := hA.2.1.1
  have hB : M 16 0 0 5 = nI B := by rw [← y_16 (M := M) (show 5 < 13 by decide)]; exact hA.2.1.2.2
  have l := l_melts hB hB12
  have ek : k_do (y_K M) B 109 d g = if 0 < y_K M 16 0 0 2 ∧ B < 12 then (1, k_me (y_K M) B) else (0, y_K M) := by
    unfold k_do
    rw [if_neg (by decide), if_neg (by decide), if_pos rfl]
  have w2 : C 14 0 12 0 = M 16 0 0 2 := by
    have := hA.2.2.2.1.1
    rw [y_16 (by decide)] at this
    exact this
  have w0 : (0 < M 16 0 0 2) ↔ ¬ M 16 0 0 2 = 0 := by
    obtain ⟨gs, ps, w, l, z1, z2, z3, z4, z5⟩ := hC.2.2.2.2.2.2.2
    rw [← w2, z3]
    have k1 : (0 < nI l) ↔ 0 < l := nI_ltI (a := 0) (b := l) (by decide) (by omega)
    have k2 : (nI l = 0) ↔ l = 0 := nI_eq (a := l) (b := 0) (by omega) (by decide)
    rw [k1, k2]
    omega
  rw [ek, y_16 (by decide)]
  by_cases h2 : M 16 0 0 2 = 0 ∨ B = 12
  · rw [if_pos h2] at l
    rw [if_neg (fun z => h2.elim (fun y => w0.mp z.1 y) (fun y => by omega))]
    exact ⟨_, _, l, Or.inr ⟨by decide, rfl, rfl⟩, rfl, hf, fun _ _ _ _ _ => rfl⟩
  · rw [if_neg h2] at l
    rw [if_pos ⟨w0.mpr (fun z => h2 (Or.inl z)), by omega⟩]
    exact ⟨_, _, l, Or.inl ⟨nI_pos' (by omega), rfl⟩, y_me.mpr (by rw [hB, nI_1]), y_f_me hf, fun a b c k hh => w_lme hh⟩
theorem o_n (h : y_W C K n N B) (hK : y_K M = K) (hf : y_f K) (d g : Int32) : y_L (m_cl 108 [.ref (m_lc 16 0 0), .ref (m_lc 17 0 0), .ref (m_lc 18 0 0), .int 1] M) M K (k_do K B 110 d g) := by
  subst hK
  have hC := h.2.2.1
  have ko := o_kok hC
  have hE : ∀ i, i < 1 → k_ok (k_dn (y_K M) i) := fun i hi => by
    have : i = 0 := by omega
    subst this
    exact ko
  have l : m_cl 108 [.ref (m_lc 16 0 0), .ref (m_lc 17 0 0), .ref (m_lc 18 0 0), .int 1] M = if M 16 0 0 0 + nI 1 ≤ 9999 then some (.inl (some (.int (l_dl M 1))), l_dn M 1) else some (.inl (some (.int (-13))), M) := l_passes (M := M) 1 (by decide) (fun _ i hi => y_dlok hf hE hi)
  have ek : k_do (y_K M) B 110 d g = if y_K M 16 0 0 0 = 9999 then (0, y_K M) else (1, k_dy (y_K M)) := by
    unfold k_do
    rw [if_neg (by decide), if_neg (by decide), if_neg (by decide), if_neg (by decide)]
  have w0 : C 7 0 0 7 = M 16 0 0 0 := by
    have := hC.1.2.2.1.1
    rw [y_16 (by decide)] at this
    exact this
  have hV := hC.2.2.2.2.2.1.1
  rw [w0] at hV
  obtain ⟨k, k1, k2⟩ := nI_upto (N := 9999) hV.1 hV.2 (by decide)
  have hq : M 16 0 0 0 + nI 1 ≤ 9999 ↔ ¬ M 16 0 0 0 = 9999 := by
    rw [k2, nI_add]
    have a1 : nI (k + 1) ≤ 9999 ↔ k + 1 ≤ 9999 := nI_leI (a := k + 1) (b := 9999) (by omega) (by decide)
    have a2 : nI k = 9999 ↔ k = 9999 := nI_eq (a := k) (b := 9999) (by omega) (by decide)
    rw [a1, a2]
    omega
  rw [ek, y_16 (by decide)]
  by_cases c1 : M 16 0 0 0 + nI 1 ≤ 9999
  · rw [if_pos c1] at l
    rw [if_neg (hq.mp c1)]
    obtain ⟨e1, e2, e3⟩ := y_dn hf hE 1 (Nat.le_refl _)
    obtain ⟨t, t1, t2⟩ := k_ln_0 (y_K M) 10
    have et : l_dl M 1 = nI t := by
      rw [e3, ← t2]
      exact Int32.zero_add _
    rw [et] at l
    exact ⟨_, _, l, Or.inl ⟨nI_pos' (by omega), rfl⟩, e1, e2, fun a b c k hh => w_ldn hh 1⟩
  · rw [if_neg c1] at l
    rw [if_pos (Decidable.byContradiction (fun z => c1 (hq.mpr z)))]
    exact ⟨_, _, l, Or.inr ⟨by decide, rfl, rfl⟩, rfl, hf, fun _ _ _ _ _ => rfl⟩
end LIVE
