/-! LIVING A DAY as a text tells it. -/
section LIVE
variable {M K : m_Mem} {n N B L : Nat} {f : String → Option Int32}
/-- an order done by both: x tells whether it could be -/
def l_do (M K : m_Mem) (kd d g d' g' : Int32) (B : Nat) : Prop := ∃ x M2, m_cl 77 [.ref (m_lc 1 0 0), .int kd, .int d, .int g] M = some (.inl (some (.int x)), M2) ∧ (k_do K B kd d' g').1 = x ∧
  ((x = 1 ∧ (∃ N' B', r_C M2 0 ((k_do K B kd d' g').2 16 0 0) N' B') ∧ (∀ a b c k, (b ≠ 0 ∨ a < 7 ∨ 15 ≤ a) → M2 a b c k = M a b c k) ∧ ∀ a b c k, a ≠ 16 → (k_do K B kd d' g').2 a b c k = K a b c k) ∨ (x = 0 ∧ M2 = M ∧ (k_do K B kd d' g').2 = K))
theorem l_w (h : r_C M 0 (K 16 0 0) N B) (hI : f_I M n N B) (d g : Int32) : l_do M K 119 d g d g B := by
  have e := a_fWeigh hI h.2.2.2.2.1.2 d g
  have ek : k_do K B 119 d g = if 0 < k_mw K d g then (0, K) else (1, k_wi K d.toNatClampNeg (K 16 0 0 (13 + 8 * d.toNatClampNeg + 2)).toNatClampNeg g) := by
    unfold k_do
    rw [if_neg (by decide), if_neg (by decide), if_neg (by decide), if_pos rfl]
  unfold l_do
  rw [ek, zc_mw h]
  have fin : ∀ q : Prop, m_cl 78 [.ref (m_lc 1 0 0), .int d, .int g] M = some (.inl (some (.int 0)), M) → m_cl 77 [.ref (m_lc 1 0 0), .int 119, .int d, .int g] M = some (.inl (some (.int 0)), M) := fun _ e => a_fo_w d g m_nok10 e
  by_cases c1 : f_has d (M 7 0 0 5) 8 = 0
  · rw [if_pos c1] at e ⊢
    rw [if_pos (by decide : (0 : Int32) < 1)]
    exact ⟨0, M, a_fo_w d g m_nok10 e, rfl, Or.inr ⟨rfl, rfl, rfl⟩⟩
  · rw [if_neg c1] at e ⊢
    by_cases c2 : f_bw g 1 9999 = 0
    · rw [if_pos c2] at e ⊢
      rw [if_pos (by decide : (0 : Int32) < 2)]
      exact ⟨0, M, a_fo_w d g m_nok10 e, rfl, Or.inr ⟨rfl, rfl, rfl⟩⟩
    · rw [if_neg c2] at e ⊢
      by_cases c3 : ¬ M 12 0 d.toNatClampNeg 2 = -1 ∧ M 14 0 12 0 + g ≤ 99999
      · rw [if_pos c3] at e ⊢
        rw [if_neg (by decide : ¬ (0 : Int32) < 0)]
        have hN := h.1.1.1
        obtain ⟨d', d1, rfl⟩ := zc_hasd h c1
        have dc := nI_clamp (show d' < 2 ^ 31 by omega)
        rw [dc] at c3 e ⊢
        rcases h.2.2.2.2.1.2 d' d1 with q | ⟨c', k1, k2, k3⟩
        · exact absurd q c3.1
        · have ek := h.2.1.1 d' d1 2 (by decide)
          rw [k2] at ek
          rw [k2, nI_clamp (show c' < 2 ^ 31 by omega)] at e
          rw [← ek, nI_clamp (show c' < 2 ^ 31 by omega)]
          exact ⟨1, _, a_fo_w _ g m_nok11 e, rfl, Or.inl ⟨rfl, ⟨N, B, o_weigh h d1 k1 k2 (f_bw_1 ((f_bw_c g 1 9999).resolve_right c2)) c3.2⟩, fun a b c k h => w_wi h, fun a b c k h => w_wk h⟩⟩
      · rw [if_neg c3] at e ⊢
        rw [if_pos (by decide : (0 : Int32) < 3)]
        exact ⟨0, M, a_fo_w d g m_nok10 e, rfl, Or.inr ⟨rfl, rfl, rfl⟩⟩
theorem l_c (h : r_C M 0 (K 16 0 0) N B) (hI : f_I M n N B) (d g : Int32) : l_do M K 99 d g d g B := by
  have e := a_fStake hI d g
  have ek : k_do K B 99 d g = if 0 < k_ms K d g then (0, K) else (1, k_st K d.toNatClampNeg g.toNatClampNeg) := by
    unfold k_do
    rw [if_pos rfl]
  unfold l_do
  rw [ek, zc_ms h]
  by_cases c1 : f_has d (M 7 0 0 5) 8 = 0
  · rw [if_pos c1] at e ⊢
    rw [if_pos (by decide : (0 : Int32) < 1)]
    exact ⟨0, M, a_fo_c d g m_nok10 e, rfl, Or.inr ⟨rfl, rfl, rfl⟩⟩
  · rw [if_neg c1] at e ⊢
    by_cases c2 : f_bw g 0 9 = 0
    · rw [if_pos c2] at e ⊢
      rw [if_pos (by decide : (0 : Int32) < 2)]
      exact ⟨0, M, a_fo_c d g m_nok10 e, rfl, Or.inr ⟨rfl, rfl, rfl⟩⟩
    · rw [if_neg c2] at e ⊢
      by_cases c3 : M 12 0 d.toNatClampNeg 2 = -1 ∧ M 13 0 g.toNatClampNeg 1 = -1
      · rw [if_pos c3] at e ⊢
        rw [if_neg (by decide : ¬ (0 : Int32) < 0)]
        have hN := h.1.1.1
        obtain ⟨d', d1, rfl⟩ := zc_hasd h c1
        obtain ⟨c', k1, rfl⟩ := f_bw_0n (U := 9) ((f_bw_c g 0 9).resolve_right c2) (by decide)
        rw [nI_clamp (show d' < 2 ^ 31 by omega), nI_clamp (show c' < 2 ^ 31 by omega)] at c3 e
        rw [nI_clamp (show d' < 2 ^ 31 by omega), nI_clamp (show c' < 2 ^ 31 by omega)]
        exact ⟨1, _, a_fo_c _ _ m_nok11 e, rfl, Or.inl ⟨rfl, ⟨N, B, o_take h d1 (show c' < 10 by omega) c3.2⟩, fun a b c k h => w_take h, fun a b c k h => w_st h⟩⟩
      · rw [if_neg c3] at e ⊢
        rw [if_pos (by decide : (0 : Int32) < 3)]
        exact ⟨0, M, a_fo_c d g m_nok10 e, rfl, Or.inr ⟨rfl, rfl, rfl⟩⟩
theorem l_g (h : r_C M 0 (K 16 0 0) N B) (hI : f_I M n N B) (d g : Int32) : l_do M K 103 d g d g B := by
  have e := a_fBuy hI d g
  have ek : k_do K B 103 d g = if 0 < k_mb K d g then (0, K) else (1, k_bu K d.toNatClampNeg g) := by
    unfold k_do
    rw [if_neg (by decide), if_pos rfl]
  unfold l_do
  rw [ek, zc_mb h]
  by_cases c1 : f_has d (M 7 0 0 5) 8 = 0
  · rw [if_pos c1] at e ⊢
    rw [if_pos (by decide : (0 : Int32) < 1)]
    exact ⟨0, M, a_fo_g d g m_nok10 e, rfl, Or.inr ⟨rfl, rfl, rfl⟩⟩
  · rw [if_neg c1] at e ⊢
    by_cases c2 : f_bw g 1 9999 = 0
    · rw [if_pos c2] at e ⊢
      rw [if_pos (by decide : (0 : Int32) < 2)]
      exact ⟨0, M, a_fo_g d g m_nok10 e, rfl, Or.inr ⟨rfl, rfl, rfl⟩⟩
    · rw [if_neg c2] at e ⊢
      by_cases c3 : f_da M 0 d.toNatClampNeg g ≤ 5000
      · rw [if_pos c3] at e ⊢
        rw [if_neg (by decide : ¬ (0 : Int32) < 0)]
        have hN := h.1.1.1
        obtain ⟨d', d1, rfl⟩ := zc_hasd h c1
        rw [nI_clamp (show d' < 2 ^ 31 by omega)] at e
        rw [nI_clamp (show d' < 2 ^ 31 by omega)]
        exact ⟨1, _, a_fo_g _ _ m_nok11 e, rfl, Or.inl ⟨rfl, ⟨N, B, o_buy h d1⟩, fun a b c k h => w_sp h, fun a b c k h => w_bu h⟩⟩
      · rw [if_neg c3] at e ⊢
        rw [if_pos (by decide : (0 : Int32) < 3)]
        exact ⟨0, M, a_fo_g d g m_nok10 e, rfl, Or.inr ⟨rfl, rfl, rfl⟩⟩
theorem l_m (h : r_C M 0 (K 16 0 0) N B) (hI : f_I M n N B) (d g d' g' : Int32) : l_do M K 109 d g d' g' B := by
  have e := a_fMelt hI
  have ek : k_do K B 109 d' g' = if 0 < K 16 0 0 2 ∧ B < 12 then (1, k_me K B) else (0, K) := by
    unfold k_do
    rw [if_neg (by decide), if_neg (by decide), if_pos rfl]
  unfold l_do
  rw [ek, ← h.1.2.2.2.1.1]
  by_cases c1 : 0 < M 14 0 12 0 ∧ B < 12
  · rw [if_pos c1] at e ⊢
    exact ⟨1, _, a_fo_m _ _ m_nok11 e, rfl, Or.inl ⟨rfl, ⟨N, B + 1, o_melt h c1.2 c1.1⟩, fun a b c k h => w_melt h, fun a b c k h => w_me h⟩⟩
  · rw [if_neg c1] at e ⊢
    exact ⟨0, M, a_fo_m d g m_nok10 e, rfl, Or.inr ⟨rfl, rfl, rfl⟩⟩
theorem l_n (h : r_C M 0 (K 16 0 0) N B) (d g d' g' : Int32) : l_do M K 110 d g d' g' B := by
  have e := a_fPass (o_fok h)
  have ek : k_do K B 110 d' g' = if K 16 0 0 0 = 9999 then (0, K) else (1, k_dy K) := by
    unfold k_do
    rw [if_neg (by decide), if_neg (by decide), if_neg (by decide), if_neg (by decide)]
  have hV := h.2.2.2.2.2.1.1
  obtain ⟨k, k1, k2⟩ := nI_upto (N := 9999) hV.1 hV.2 (by decide)
  have hq : M 7 0 0 7 + 1 ≤ 9999 ↔ ¬ M 7 0 0 7 = 9999 := by
    rw [k2, nI_1]
    have a1 : nI (k + 1) ≤ 9999 ↔ k + 1 ≤ 9999 := nI_leI (a := k + 1) (b := 9999) (by omega) (by decide)
    have a2 : nI k = 9999 ↔ k = 9999 := nI_eq (a := k) (b := 9999) (by omega) (by decide)
    rw [a1, a2]
    omega
  unfold l_do
  rw [ek, ← h.1.2.2.1.1]
  by_cases c1 : M 7 0 0 7 + 1 ≤ 9999
  · rw [if_pos c1] at e
    rw [if_neg (hq.mp c1)]
    exact ⟨1, _, a_fo_n _ _ m_nok11 e, rfl, Or.inl ⟨rfl, ⟨N, B, (o_dy h c1).1⟩, fun a b c k h => w_dy h, fun a b c k h => w_kdy h⟩⟩
  · rw [if_neg c1] at e
    rw [if_pos (Decidable.byContradiction (fun z => c1 (hq.mpr z)))]
    exact ⟨0, M, a_fo_n d g m_nok10 e, rfl, Or.inr ⟨rfl, rfl, rfl⟩⟩
end LIVE
