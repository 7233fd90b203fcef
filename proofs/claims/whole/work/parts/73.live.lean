/-! LIVING A DAY as a text tells it. -/
section LIVE
variable {M K : m_Mem} {n N B L : Nat} {f : String → Option Int32}
theorem w_or {b a a' b' c' k : Nat} (h1 : a' ≠ 21) (h2 : ¬ (a' = 15 ∧ k = 8)) : (k_or K L b a).2 a' b' c' k = K a' b' c' k := by
  unfold k_or
  split
  · simp (disch := omega) only [m_set_n]
  · split
    · rfl
    · split
      · simp (disch := omega) only [k_o2, k_o1, m_set_n]
      · split
        · simp (disch := omega) only [k_o2, k_o1, m_set_n]
        · simp (disch := omega) only [k_o1, m_set_n]
theorem w_tx {a' b' c' k : Nat} (h1 : a' ≠ 21) (h2 : ¬ (a' = 15 ∧ (k = 8 ∨ k = 9))) : ∀ (q : Nat) (K : m_Mem), (k_tx L q K).2 a' b' c' k = K a' b' c' k
  | 0, _ => rfl
  | q + 1, K => by
    rw [k_tx]
    split
    · exact w_or h1 (by omega)
    · split
      · rw [w_tx h1 h2 q, m_set_n (by omega), m_set_n (by omega), w_or h1 (by omega)]
      · show m_set (m_set _ 15 0 0 9 _) 15 0 0 8 _ a' b' c' k = _
        rw [m_set_n (by omega), m_set_n (by omega), w_or h1 (by omega)]
/-- where the model's reading begins -/
def l_0 (K : m_Mem) : m_Mem := m_set (m_set (k_0 K) 15 0 0 8 0) 15 0 0 9 0
theorem l_0_20 (K : m_Mem) : l_0 K 20 0 0 = K 20 0 0 := by
  funext i
  unfold l_0
  rw [m_set_n (by omega), m_set_n (by omega), k_0_o _ _ _ _ _ (by omega)]
theorem l_tx_o {a b c k : Nat} (h1 : a ≠ 21) (h2 : ¬ (a = 15 ∧ (k = 8 ∨ k = 9))) (q : Nat) : (k_tx L q (l_0 K)).2 a b c k = k_0 K a b c k := by
  rw [w_tx h1 h2]
  unfold l_0
  rw [m_set_n (by omega), m_set_n (by omega)]
theorem l_tx_T (h : r_T M K n N B L) (q : Nat) : r_T M (k_tx L q (l_0 K)).2 n N B L := r_Tcg (z_k0 h) (fun _ _ _ _ _ => rfl) (fun a b c k h1 h2 h3 => l_tx_o (by omega) (by omega) q)
theorem z_firstError (hT : r_T M M n N B L) : z_D 75 151 M := by
  have hX := fun K (hb : r_T M K n N B L) => hb.2.2.2.2.2.2.1
  have hL := (hX M hT).1.1
  refine z_d hT (a_firstError L hL (hX M hT).1.2.1 (hX M hT).2.2) (fun _ _ _ _ _ => rfl) (fun K hb => ⟨(k_tx L (L + 1) (l_0 K)).2, ?_, fun a b c k h => ?_, n, N, B, L, l_tx_T hb _⟩)
  · have e := h_firstError L hL (hX K hb).1.2.2
    have eE : f_ei (M 6 0 0) L 0 = f_ei (K 20 0 0) L 0 := t_cge (hX K hb).2.1 L 0 (by omega)
    rw [e]
    show some (Sum.inl (some (Value.int (if (k_tx L (L + 1) (l_0 K)).1 = 0 then (k_tx L (L + 1) (l_0 K)).2 15 0 0 8 else (k_tx L (L + 1) (l_0 K)).2 15 0 0 7))), (k_tx L (L + 1) (l_0 K)).2) = _
    have hb2 := t_both hL (M := l_0 K) (by unfold l_0; rw [m_set_n (by omega), m_set_i]) m_set_i
    rw [l_0_20] at hb2
    rcases hb2 with ⟨h1, h2, h3, -⟩ | ⟨h1, h2, h3⟩
    · rw [h1, if_neg (by decide), l_tx_o (by omega) (by omega), k_0_o _ _ _ _ _ (by omega), (hX K hb).1.2.2, eE, h3]
    · rw [h1, if_pos rfl, h3, eE]
  · rw [l_tx_o (by omega) (by omega), k_0_o _ _ _ _ _ (by omega)]
/-- an order done by both: x tells whether it could be -/
def l_do (M K : m_Mem) (kd d g d' g' : Int32) (B : Nat) : Prop := ∃ x M2, m_cl 97 [.ref (m_lc 1 0 0), .int kd, .int d, .int g] M = some (.inl (some (.int x)), M2) ∧ (k_do K B kd d' g').1 = x ∧
  ((x = 1 ∧ (∃ N' B', r_C M2 0 ((k_do K B kd d' g').2 16 0 0) N' B') ∧ (∀ a b c k, (b ≠ 0 ∨ a < 7 ∨ 15 ≤ a) → M2 a b c k = M a b c k) ∧ ∀ a b c k, a ≠ 16 → (k_do K B kd d' g').2 a b c k = K a b c k) ∨ (x = 0 ∧ M2 = M ∧ (k_do K B kd d' g').2 = K))
theorem l_w (h : r_C M 0 (K 16 0 0) N B) (hI : f_I M n N B) (d g : Int32) : l_do M K 119 d g d g B := by
  have e := a_fWeigh hI h.2.2.2.2.1.2 d g
  have ek : k_do K B 119 d g = if 0 < k_mw K d g then (0, K) else (1, k_wi K d.toNatClampNeg (K 16 0 0 (13 + 8 * d.toNatClampNeg + 2)).toNatClampNeg g) := by
    unfold k_do
    rw [if_neg (by decide), if_neg (by decide), if_neg (by decide), if_pos rfl]
  unfold l_do
  rw [ek, zc_mw h]
  have fin : ∀ q : Prop, m_cl 98 [.ref (m_lc 1 0 0), .int d, .int g] M = some (.inl (some (.int 0)), M) → m_cl 97 [.ref (m_lc 1 0 0), .int 119, .int d, .int g] M = some (.inl (some (.int 0)), M) := fun _ e => a_fo_w d g m_nok10 e
  by_cases c1 : f_has d (M 7 0 0 5) 8 = 0
  · rw [if_pos c1] at e ⊢
    rw [if_pos (by decide : (0 : Int32) < 1)]
    exact ⟨0, M, a_fo_w d g m_nok10 e, rfl, Or.inr ⟨rfl, rfl, rfl⟩⟩
  · rw [if_neg c1] at e ⊢
    by_cases c2 : f_bw g 1 9999 = 0
    · rw [if_pos c2] at e ⊢
      rw [if_pos (by decide : (0 : Int32) < 2)]
      exact ⟨0, M, a_fo_w d g m_nok10 e, rfl, Or.inr ⟨rfl, rfl, rfl⟩⟩
    · rw [if_neg c2] at e ⊢
      by_cases c3 : ¬ M 12 0 d.toNatClampNeg 2 = -1 ∧ M 14 0 12 0 + g ≤ 99999
      · rw [if_pos c3] at e ⊢
        rw [if_neg (by decide : ¬ (0 : Int32) < 0)]
        have hN := h.1.1.1
        obtain ⟨d', d1, rfl⟩ := zc_hasd h c1
        have dc := nI_clamp (show d' < 2 ^ 31 by omega)
        rw [dc] at c3 e ⊢
        rcases h.2.2.2.2.1.2 d' d1 with q | ⟨c', k1, k2, k3⟩
        · exact absurd q c3.1
        · have ek := h.2.1.1 d' d1 2 (by decide)
          rw [k2] at ek
          rw [k2, nI_clamp (show c' < 2 ^ 31 by omega)] at e
          rw [← ek, nI_clamp (show c' < 2 ^ 31 by omega)]
          exact ⟨1, _, a_fo_w _ g m_nok11 e, rfl, Or.inl ⟨rfl, ⟨N, B, o_weigh h d1 k1 k2 (f_bw_1 ((f_bw_c g 1 9999).resolve_right c2)) c3.2⟩, fun a b c k h => w_wi h, fun a b c k h => w_wk h⟩⟩
      · rw [if_neg c3] at e ⊢
        rw [if_pos (by decide : (0 : Int32) < 3)]
        exact ⟨0, M, a_fo_w d g m_nok10 e, rfl, Or.inr ⟨rfl, rfl, rfl⟩⟩
theorem l_c (h : r_C M 0 (K 16 0 0) N B) (hI : f_I M n N B) (d g : Int32) : l_do M K 99 d g d g B := by
  have e := a_fStake hI d g
  have ek : k_do K B 99 d g = if 0 < k_ms K d g then (0, K) else (1, k_st K d.toNatClampNeg g.toNatClampNeg) := by
    unfold k_do
    rw [if_pos rfl]
  unfold l_do
  rw [ek, zc_ms h]
  by_cases c1 : f_has d (M 7 0 0 5) 8 = 0
  · rw [if_pos c1] at e ⊢
    rw [if_pos (by decide : (0 : Int32) < 1)]
    exact ⟨0, M, a_fo_c d g m_nok10 e, rfl, Or.inr ⟨rfl, rfl, rfl⟩⟩
  · rw [if_neg c1] at e ⊢
    by_cases c2 : f_bw g 0 9 = 0
    · rw [if_pos c2] at e ⊢
      rw [if_pos (by decide : (0 : Int32) < 2)]
      exact ⟨0, M, a_fo_c d g m_nok10 e, rfl, Or.inr ⟨rfl, rfl, rfl⟩⟩
    · rw [if_neg c2] at e ⊢
      by_cases c3 : M 12 0 d.toNatClampNeg 2 = -1 ∧ M 13 0 g.toNatClampNeg 1 = -1
      · rw [if_pos c3] at e ⊢
        rw [if_neg (by decide : ¬ (0 : Int32) < 0)]
        have hN := h.1.1.1
        obtain ⟨d', d1, rfl⟩ := zc_hasd h c1
        obtain ⟨c', k1, rfl⟩ := f_bw_0n (U := 9) ((f_bw_c g 0 9).resolve_right c2) (by decide)
        rw [nI_clamp (show d' < 2 ^ 31 by omega), nI_clamp (show c' < 2 ^ 31 by omega)] at c3 e
        rw [nI_clamp (show d' < 2 ^ 31 by omega), nI_clamp (show c' < 2 ^ 31 by omega)]
        exact ⟨1, _, a_fo_c _ _ m_nok11 e, rfl, Or.inl ⟨rfl, ⟨N, B, o_take h d1 (show c' < 10 by omega) c3.2⟩, fun a b c k h => w_take h, fun a b c k h => w_st h⟩⟩
      · rw [if_neg c3] at e ⊢
        rw [if_pos (by decide : (0 : Int32) < 3)]
        exact ⟨0, M, a_fo_c d g m_nok10 e, rfl, Or.inr ⟨rfl, rfl, rfl⟩⟩
theorem l_g (h : r_C M 0 (K 16 0 0) N B) (hI : f_I M n N B) (d g : Int32) : l_do M K 103 d g d g B := by
  have e := a_fBuy hI d g
  have ek : k_do K B 103 d g = if 0 < k_mb K d g then (0, K) else (1, k_bu K d.toNatClampNeg g) := by
    unfold k_do
    rw [if_neg (by decide), if_pos rfl]
  unfold l_do
  rw [ek, zc_mb h]
  by_cases c1 : f_has d (M 7 0 0 5) 8 = 0
  · rw [if_pos c1] at e ⊢
    rw [if_pos (by decide : (0 : Int32) < 1)]
    exact ⟨0, M, a_fo_g d g m_nok10 e, rfl, Or.inr ⟨rfl, rfl, rfl⟩⟩
  · rw [if_neg c1] at e ⊢
    by_cases c2 : f_bw g 1 9999 = 0
    · rw [if_pos c2] at e ⊢
      rw [if_pos (by decide : (0 : Int32) < 2)]
      exact ⟨0, M, a_fo_g d g m_nok10 e, rfl, Or.inr ⟨rfl, rfl, rfl⟩⟩
    · rw [if_neg c2] at e ⊢
      by_cases c3 : f_da M 0 d.toNatClampNeg g ≤ 5000
      · rw [if_pos c3] at e ⊢
        rw [if_neg (by decide : ¬ (0 : Int32) < 0)]
        have hN := h.1.1.1
        obtain ⟨d', d1, rfl⟩ := zc_hasd h c1
        rw [nI_clamp (show d' < 2 ^ 31 by omega)] at e
        rw [nI_clamp (show d' < 2 ^ 31 by omega)]
        exact ⟨1, _, a_fo_g _ _ m_nok11 e, rfl, Or.inl ⟨rfl, ⟨N, B, o_buy h d1⟩, fun a b c k h => w_sp h, fun a b c k h => w_bu h⟩⟩
      · rw [if_neg c3] at e ⊢
        rw [if_pos (by decide : (0 : Int32) < 3)]
        exact ⟨0, M, a_fo_g d g m_nok10 e, rfl, Or.inr ⟨rfl, rfl, rfl⟩⟩
theorem l_m (h : r_C M 0 (K 16 0 0) N B) (hI : f_I M n N B) (d g d' g' : Int32) : l_do M K 109 d g d' g' B := by
  have e := a_fMelt hI
  have ek : k_do K B 109 d' g' = if 0 < K 16 0 0 2 ∧ B < 12 then (1, k_me K B) else (0, K) := by
    unfold k_do
    rw [if_neg (by decide), if_neg (by decide), if_pos rfl]
  unfold l_do
  rw [ek, ← h.1.2.2.2.1.1]
  by_cases c1 : 0 < M 14 0 12 0 ∧ B < 12
  · rw [if_pos c1] at e ⊢
    exact ⟨1, _, a_fo_m _ _ m_nok11 e, rfl, Or.inl ⟨rfl, ⟨N, B + 1, o_melt h c1.2 c1.1⟩, fun a b c k h => w_melt h, fun a b c k h => w_me h⟩⟩
  · rw [if_neg c1] at e ⊢
    exact ⟨0, M, a_fo_m d g m_nok10 e, rfl, Or.inr ⟨rfl, rfl, rfl⟩⟩
theorem l_n (h : r_C M 0 (K 16 0 0) N B) (d g d' g' : Int32) : l_do M K 110 d g d' g' B := by
  have e := a_fPass (o_fok h)
  have ek : k_do K B 110 d' g' = if K 16 0 0 0 = 9999 then (0, K) else (1, k_dy K) := by
    unfold k_do
    rw [if_neg (by decide), if_neg (by decide), if_neg (by decide), if_neg (by decide)]
  have hV := h.2.2.2.2.2.1.1
  obtain ⟨k, k1, k2⟩ := nI_upto (N := 9999) hV.1 hV.2 (by decide)
  have hq : M 7 0 0 7 + 1 ≤ 9999 ↔ ¬ M 7 0 0 7 = 9999 := by
    rw [k2, nI_1]
    have a1 : nI (k + 1) ≤ 9999 ↔ k + 1 ≤ 9999 := nI_leI (a := k + 1) (b := 9999) (by omega) (by decide)
    have a2 : nI k = 9999 ↔ k = 9999 := nI_eq (a := k) (b := 9999) (by omega) (by decide)
    rw [a1, a2]
    omega
  unfold l_do
  rw [ek, ← h.1.2.2.1.1]
  by_cases c1 : M 7 0 0 7 + 1 ≤ 9999
  · rw [if_pos c1] at e
    rw [if_neg (hq.mp c1)]
    exact ⟨1, _, a_fo_n _ _ m_nok11 e, rfl, Or.inl ⟨rfl, ⟨N, B, (o_dy h c1).1⟩, fun a b c k h => w_dy h, fun a b c k h => w_kdy h⟩⟩
  · rw [if_neg c1] at e
    rw [if_pos (Decidable.byContradiction (fun z => c1 (hq.mpr z)))]
    exact ⟨0, M, a_fo_n d g m_nok10 e, rfl, Or.inr ⟨rfl, rfl, rfl⟩⟩
theorem t_cgq {t u : Nat → Int32} (h : ∀ i, i < L → t i = u i) : c_n t L = c_n u L ∧ c_a1 t L = c_a1 u L ∧ c_d t L = c_d u L ∧ c_sg t L = c_sg u L := by
  have e := t_cgs h
  have e1 : c_a1 t L = c_a1 u L := by
    funext a
    unfold c_a1
    rw [e]
  refine ⟨?_, e1, ?_, e⟩
  · funext a
    unfold c_n
    rw [e1, t_cgd h]
  · funext a
    unfold c_d
    rw [e]
theorem t_cgp {t u : Nat → Int32} (h : ∀ i, i < L → t i = u i) (a : Nat) : ∀ i, t_ps t L a i = t_ps u L a i
  | 0 => rfl
  | i + 1 => by
    show (c_n t L (t_ps t L a i)).1 + 1 = (c_n u L (t_ps u L a i)).1 + 1
    rw [t_cgp h a i, (t_cgq h).1]
theorem t_cge2 {t u : Nat → Int32} (h : ∀ i, i < L → t i = u i) {a : Nat} {k d g : Int32} (q : t_eq u L a k d g) : t_eq t L a k d g := by
  obtain ⟨e1, e2, e3, e4⟩ := t_cgq h
  unfold t_eq at q ⊢
  rw [e1, e2, e3, e4]
  exact q
/-- the orders from the i-th on -/
theorem l_loop {t : Nat → Int32} {m p : Nat} (hL : L ≤ 60) (hm : m ≤ 30) (hn : n ≤ 6) (hp : p ≤ 6) (he : L < t_ps t L 0 m) (he2 : t_ps t L 0 m < 1000) : ∀ (k i : Nat) (M K : m_Mem) (N B : Nat), i + k = m → r_C M 0 (K 16 0 0) N B → M 1 0 0 5 = nI n → f_Q M → M 5 0 0 1 = nI L → (∀ i, i < 60 → m_nok 2 (M 6 0 0 i) = true) → M 6 0 0 = t → M 5 0 0 2 = nI (t_ps t L 0 i) →
    K 15 0 0 4 = nI p → K 15 0 0 9 = nI m → (∀ i, i < m → t_eq t L (t_ps t L 0 i) (K 21 0 0 (3 * i)) (K 21 0 0 (3 * i + 1)) (K 21 0 0 (3 * i + 2))) →
    ∃ v M' K' N' B', m_E 76 33 [some (.ref (m_lc 1 0 0)), some (.int (nI i))] [] M = m_E 76 83 [some (.ref (m_lc 1 0 0)), some (.int v)] [] M' ∧ m_E 153 29 [some (.ref (m_lc 15 0 0)), some (.int (nI i))] [] K = some (.inl (some (.int v)), K') ∧ r_C M' 0 (K' 16 0 0) N' B' ∧ (∀ a b c k, (b ≠ 0 ∨ a < 7 ∨ 15 ≤ a) → ¬ (a = 5 ∧ 2 ≤ k) → M' a b c k = M a b c k) ∧ ∀ a b c k, a ≠ 16 → K' a b c k = K a b c k := by
  intro k
  induction k with
  | zero =>
    intro i M K N B hi hC h15 hQ hl hCh ht h2 h4 h9 hq
    have e : i = m := by omega
    subst e
    have h60 : ¬ (60 : Int32) ≤ nI i := nI_ge (b := 60) (by omega) (by decide)
    have ro := s_ro_0 hL hl _ (Nat.le_of_lt he) he2 h2
    have hle : nI i ≤ nI i := nI_le (Nat.le_refl _) (by omega)
    refine ⟨nI i, M, K, N, B, ?_, ?_, hC, fun _ _ _ _ _ _ => rfl, fun _ _ _ _ _ => rfl⟩
    · simp only [e5_live_33, e5_live_34, e5_live_36, e5_live_39, e5_live_40, e5_live_43, e5_live_46, m_k1d, h60, ro, m_cE_i, m_cE_v, m_cE_ite, m_kill, if_true, if_false]
    · simp only [e6_live_29, e6_live_30, e6_live_31, e6_live_34, m_k15, h9, hle, if_true]
      simp only [e6_live_51, e6_live_52]
  | succ k ih =>
    intro i M K N B hi hC h15 hQ hl hCh ht h2 h4 h9 hq
    have h60 : ¬ (60 : Int32) ≤ nI i := nI_ge (b := 60) (by omega) (by decide)
    have hlt : ¬ nI m ≤ nI i := nI_ge (by omega) (by omega)
    obtain ⟨q1, q2, q3⟩ := hq i (by omega)
    have hnc : m_nc (K 21 0 0 (3 * i)) = K 21 0 0 (3 * i) := by
      rw [← q2, ← ht]
      exact m_nok_c (c_sg_ok hL hCh _)
    have ro := s_ro hL hl hCh _ (by rw [← ht] at q1; exact q1) (by rw [ht]; exact h2)
    rw [ht] at ro
    have eR : c_R M L (t_ps t L 0 i) = c_S M (nI (t_ps t L 0 (i + 1))) (K 21 0 0 (3 * i)) (c_d t L (t_ps t L 0 i)) (c_n t L (t_ps t L 0 i)).2 := by
      unfold c_R
      rw [ht, q2]
      rfl
    rw [eR] at ro
    generalize hM1 : c_S M (nI (t_ps t L 0 (i + 1))) (K 21 0 0 (3 * i)) (c_d t L (t_ps t L 0 i)) (c_n t L (t_ps t L 0 i)).2 = M1 at ro
    have m1o : ∀ a b c k, ¬ (a = 5 ∧ 2 ≤ k) → M1 a b c k = M a b c k := fun a b c k h => by
      rw [← hM1, c_S_at, if_neg (by omega), if_neg (by omega), if_neg (by omega), if_neg (by omega)]
    have f3 : M1 5 0 0 3 = K 21 0 0 (3 * i) := by rw [← hM1, c_S_3]
    have f4 : M1 5 0 0 4 = c_d t L (t_ps t L 0 i) := by rw [← hM1, c_S_4]
    have f5 : M1 5 0 0 5 = (c_n t L (t_ps t L 0 i)).2 := by rw [← hM1, c_S_5]
    have f2 : M1 5 0 0 2 = nI (t_ps t L 0 (i + 1)) := by rw [← hM1, c_S_2]
    have hC1 : r_C M1 0 (K 16 0 0) N B := r_cg2 hC (fun a c k hd => m1o _ _ _ _ (by unfold r_dm at hd; omega)) (fun _ _ => rfl)
    have hQ1 : f_Q M1 := fun i hi => by
      rw [f_q_cg (M := M) (fun i => m1o 4 0 0 i (by omega)), m1o 4 0 0 i (by omega)]
      exact hQ i hi
    have hI1 : f_I M1 n N B := ⟨⟨hn, by rw [m1o _ _ _ _ (by omega)]; exact h15⟩, hC1.1.1.1 |> fun x => ⟨x, hC1.1.1.2.1⟩, ⟨hC1.1.2.1.1, hC1.1.2.1.2.1⟩, hQ1, r_bool_C hC1⟩
    have hdo : l_do M1 K (K 21 0 0 (3 * i)) (c_d t L (t_ps t L 0 i)) (c_n t L (t_ps t L 0 i)).2 (K 21 0 0 (3 * i + 1)) (K 21 0 0 (3 * i + 2)) B := by
      rcases q3 with (q | q) | ⟨(q | q | q), r1, r2⟩
      · rw [q]
        exact l_m hC1 hI1 _ _ _ _
      · rw [q]
        exact l_n hC1 _ _ _ _
      · rw [q, r1, r2]
        exact l_w hC1 hI1 _ _
      · rw [q, r1, r2]
        exact l_c hC1 hI1 _ _
      · rw [q, r1, r2]
        exact l_g hC1 hI1 _ _
    have hJ : k_J K p N B := ⟨⟨hp, h4⟩, ⟨hC.1.1.1, hC.1.1.2.2⟩, ⟨hC.1.2.1.1, hC.1.2.1.2.2⟩⟩
    have gd := g_does hJ (z_kD2 hC) (z_12 hC) (o_kok hC) i (by omega)
    obtain ⟨x, M2, fo, kx, hx⟩ := hdo
    rw [kx] at gd
    rcases hx with ⟨rfl, ⟨N2, B2, hC2⟩, fM, fK⟩ | ⟨rfl, rfl, fK⟩
    · generalize (k_do K B (K 21 0 0 (3 * i)) (K 21 0 0 (3 * i + 1)) (K 21 0 0 (3 * i + 2))).2 = K2 at gd hC2 fK
      have g1 : ∀ a b c k, (b ≠ 0 ∨ a < 7 ∨ 15 ≤ a) → ¬ (a = 5 ∧ 2 ≤ k) → M2 a b c k = M a b c k := fun a b c k z1 z2 => by rw [fM _ _ _ _ z1, m1o _ _ _ _ z2]
      obtain ⟨v, M', K', N', B', r1, r2, r3, r4, r5⟩ := ih (i + 1) M2 K2 N2 B2 (by omega) hC2 (by rw [g1 _ _ _ _ (by omega) (by omega)]; exact h15)
        (fun i hi => by rw [f_q_cg (M := M) (fun i => g1 4 0 0 i (by omega) (by omega)), g1 4 0 0 i (by omega) (by omega)]; exact hQ i hi)
        (by rw [g1 _ _ _ _ (by omega) (by omega)]; exact hl) (fun i hi => by rw [g1 _ _ _ _ (by omega) (by omega)]; exact hCh i hi)
        (by rw [← ht]; funext j; exact g1 _ _ _ _ (by omega) (by omega)) (by rw [fM _ _ _ _ (by omega)]; exact f2)
        (by rw [fK _ _ _ _ (by omega)]; exact h4) (by rw [fK _ _ _ _ (by omega)]; exact h9) (fun j hj => by rw [fK _ _ _ _ (by omega), fK _ _ _ _ (by omega), fK _ _ _ _ (by omega)]; exact hq j hj)
      refine ⟨v, M', K', N', B', ?_, ?_, r3, fun a b c k z1 z2 => by rw [r4 _ _ _ _ z1 z2, g1 _ _ _ _ z1 z2], fun a b c k z => by rw [r5 _ _ _ _ z, fK _ _ _ _ z]⟩
      · rw [← r1]
        rw [e5_live_33]
        simp only [e5_live_34, e5_live_36, e5_live_39, e5_live_40, e5_live_43, e5_live_46, e5_live_49, e5_live_50, e5_live_51, e5_live_54, e5_live_57, e5_live_58, e5_live_61, e5_live_64, e5_live_65, e5_live_68, e5_live_71, e5_live_74, e5_live_77, e5_live_80, m_k1d, m_k5, h60, ro, f3, f4, f5, hnc, fo, nI_1, m_kill, m_cE_i, m_cE_v, m_cE_ite, m_kill, (by decide : ¬ (1 : Int32) = 0), if_true, if_false]
      · rw [← r2]
        rw [e6_live_29]
        simp only [e6_live_30, e6_live_31, e6_live_34, e6_live_37, e6_live_38, e6_live_39, e6_live_42, e6_live_45, e6_live_48, m_k15, h9, hlt, gd, nI_1, m_kill, m_cE_i, m_cE_v, m_cE_ite, m_kill, (by decide : ¬ (1 : Int32) = 0), if_true, if_false]
    · refine ⟨nI i, M2, K, N, B, ?_, ?_, hC1, fun a b c k _ z2 => m1o _ _ _ _ z2, fun _ _ _ _ _ => rfl⟩
      · rw [e5_live_33]
        simp only [e5_live_34, e5_live_36, e5_live_39, e5_live_40, e5_live_43, e5_live_46, e5_live_49, e5_live_50, e5_live_51, e5_live_54, e5_live_57, e5_live_58, e5_live_61, e5_live_64, e5_live_65, e5_live_68, e5_live_71, e5_live_74, m_k1d, m_k5, h60, ro, f3, f4, f5, hnc, fo, m_kill, m_cE_i, m_cE_v, m_cE_ite, m_kill, (by decide : ¬ (1 : Int32) = 0), if_true, if_false]
      · rw [fK] at gd
        rw [e6_live_29]
        simp only [e6_live_30, e6_live_31, e6_live_34, e6_live_37, e6_live_38, e6_live_39, e6_live_42, m_k15, h9, hlt, gd, m_kill, m_cE_i, m_cE_v, m_cE_ite, m_kill, if_true, if_false]
        simp only [e6_live_51, e6_live_52]
theorem z_e2 {X Y : Nat} {as asm : List Value} {E : String} {num : Int32} (hT : r_T M M n N B L) (h1 : m_cl X as M = some (.inr E, M)) (hf : f E = some num) (h0 : num ≠ 0) (h2 : ∀ K, r_T M K n N B L → ∃ K2 b, m_cl Y asm K = some (.inl (some (.int b)), K2) ∧ K2 15 0 0 5 = num ∧ (∀ a b c k, (a < 15 ∨ 21 < a) → K2 a b c k = K a b c k) ∧ r_T M K2 n N B L) : z_S X Y as asm M f := by
  have hb : r_T M (m_bump M) n N B L := r_Tcg hT (fun _ _ _ _ _ => rfl) (fun a b c k h1 h2 h3 => m_bump_o _ _ _ _ _ (by omega))
  obtain ⟨K2, b, g1, g2, g3, g4⟩ := h2 _ hb
  refine Or.inr ⟨E, num, b, K2, h1, hf, h0, g1, g2, ?_, ⟨n, N, B, L, ?_⟩, fun a b c k h3 h4 => ?_⟩
  · rw [g3 _ _ _ _ (by omega)]
    unfold m_bump
    rw [m_set_i]
  · exact r_Tcg g4 (fun a b c k hh => by rw [g3 _ _ _ _ (by omega), m_bump_o _ _ _ _ _ (by omega)]) (fun _ _ _ _ _ _ _ => rfl)
  · rw [g3 _ _ _ _ (by omega), m_bump_o _ _ _ _ _ h4]
theorem z_live (hT : r_T M M n N B L) (h1 : f "java/lang/IllegalArgumentException" = some 1) : z_S 76 153 [.ref (m_lc 1 0 0)] [.ref (m_lc 15 0 0)] M f := by
  have hX := fun K (hb : r_T M K n N B L) => hb.2.2.2.2.2.2.1
  have hL := (hX M hT).1.1
  have hl := (hX M hT).1.2.1
  have hCh := (hX M hT).2.2
  have day := s_day L hL M hl hCh
  have rd := fun K (hb : r_T M K n N B L) => t_both hL (M := l_0 K) (by unfold l_0; rw [m_set_n (by omega), m_set_i]) m_set_i
  have st := fun K (hb : r_T M K n N B L) => t_cg (hX K hb).2.1 L (Nat.le_refl _)
  have gt := fun K (hb : r_T M K n N B L) => g_text L hL (k_0 K) (show k_0 K 15 0 0 7 = nI L by rw [k_0_o _ _ _ _ _ (by omega)]; exact (hX K hb).1.2.2)
  by_cases c1 : 4 ≤ f_stt (M 6 0 0) L
  · rw [if_pos c1] at day
    have key : ∀ K, r_T M K n N B L → ∃ v M' K' N' B', m_cl 76 [.ref (m_lc 1 0 0)] M = some (.inl (some (.int v)), m_set M' 5 0 0 1 0) ∧ m_cl 153 [.ref (m_lc 15 0 0)] K = some (.inl (some (.int v)), K') ∧ r_C M' 0 (K' 16 0 0) N' B' ∧
        (∀ a b c k, (b ≠ 0 ∨ a < 7 ∨ 15 ≤ a) → ¬ (a = 5 ∧ 2 ≤ k) → M' a b c k = f_sv M n a b c k) ∧ ∀ a b c k, a ≠ 16 → K' a b c k = m_set (k_sv (k_tx L (L + 1) (l_0 K)).2 n) 15 0 0 7 0 a b c k := by
      intro K hb
      have r := rd K hb
      rw [l_0_20] at r
      rcases r with ⟨r1, r2, r3, m, r4, r5, r6, r7, r8⟩ | ⟨r1, r2, r3⟩
      · have hKt := l_tx_T hb (L + 1)
        have gt2 : m_cl 150 [.ref (m_lc 15 0 0)] (k_0 K) = some (.inl (some (.int (k_tx L (L + 1) (l_0 K)).1)), (k_tx L (L + 1) (l_0 K)).2) := gt K hb
        rw [r1] at gt2
        generalize (k_tx L (L + 1) (l_0 K)).2 = Kt at r4 r8 hKt gt2
        have sv : r_T (f_sv M n) (k_sv Kt n) (r_n n) N B L := o_save hKt
        have ko : ∀ a b c k, a ≠ 17 → ¬ (a = 15 ∧ k = 4) → k_sv Kt n a b c k = Kt a b c k := fun a b c k z1 z2 => k_sv_o _ _ _ _ _ _ z1 z2
        have so : ∀ a b c k, b < 3 → a ≠ 4 → ¬ (a = 1 ∧ k = 5) → f_sv M n a b c k = M a b c k := fun a b c k z1 z2 z3 => f_sv_o _ _ _ _ _ _ z1 z2 z3
        have hrn : r_n n ≤ 6 := by
          unfold r_n
          split <;> omega
        have hC0 : r_C (m_set (f_sv M n) 5 0 0 2 0) 0 (m_set (k_sv Kt n) 15 0 0 7 0 16 0 0) N B := r_cg2 (z_C sv) (fun a c k hd => m_set_n (by unfold r_dm at hd; omega)) (fun i hi => m_set_n (by omega))
        have ps := t_cgp (hX K hb).2.1 0
        obtain ⟨v, M', K', N', B', l1, l2, l3, l4, l5⟩ := l_loop (n := r_n n) (L := L) (t := M 6 0 0) (m := m) (p := r_n n) hL r5 hrn hrn (by rw [ps]; exact r6) (by rw [ps]; exact r7) m 0 (m_set (f_sv M n) 5 0 0 2 0) (m_set (k_sv Kt n) 15 0 0 7 0) N B (by omega) hC0
          (by rw [m_set_n (by omega)]; exact sv.1.2.1) (fun i hi => sv.2.1.1 i hi) (by rw [m_set_n (by omega), so _ _ _ _ (by omega) (by omega) (by omega)]; exact hl) (fun i hi => by rw [m_set_n (by omega), so _ _ _ _ (by omega) (by omega) (by omega)]; exact hCh i hi)
          (by funext j; rw [m_set_n (by omega), so _ _ _ _ (by omega) (by omega) (by omega)]) (by rw [m_set_i]; rfl) (by rw [m_set_n (by omega)]; exact sv.1.2.2) (by rw [m_set_n (by omega), ko _ _ _ _ (by omega) (by omega)]; exact r4)
          (fun i hi => by
            rw [m_set_n (by omega), m_set_n (by omega), m_set_n (by omega), ko _ _ _ _ (by omega) (by omega), ko _ _ _ _ (by omega) (by omega), ko _ _ _ _ (by omega) (by omega), ps]
            exact t_cge2 (hX K hb).2.1 (r8 i hi))
        refine ⟨v, M', K', N', B', ?_, ?_, l3, fun a b c k z1 z2 => by rw [l4 _ _ _ _ z1 z2, m_set_n (by omega)], l5⟩
        · rw [e5_live_en]
          simp only [e5_live_0, e5_live_1, e5_live_4, e5_live_7, e5_live_10, e5_live_20, e5_live_21, e5_live_24, e5_live_25, e5_live_28, e5_live_31, e5_live_32, m_k1d, m_k5, day, a_save (z_fI hT), s_rfs, m_kill, m_cE_i, m_cE_v, m_cE_ite, m_kill, (by decide : ¬ (1 : Int32) = 0), ne_eq, not_false_eq_true, if_true, if_false]
          refine Eq.trans l1 ?_
          simp only [e5_live_83, e5_live_84, e5_live_87, e5_live_88, e5_live_91, e5_live_92, m_k1d, m_k5, m_kill]
        · rw [e6_live_en]
          have gs := g_saves n hT.1.1 hKt.1.2.2
          simp only [e6_live_0, e6_live_1, e6_live_2, e6_live_5, e6_live_6, e6_live_9, e6_live_12, e6_live_13, e6_live_14, e6_live_17, e6_live_18, e6_live_19, e6_live_22, e6_live_23, e6_live_24, e6_live_27, e6_live_28, m_k15, k_0_e, gt2, gs, m_kill, m_cE_i, m_cE_v, m_cE_ite, m_kill, (by decide : ¬ (1 : Int32) = 0), ne_eq, not_false_eq_true, if_true, if_false]
          exact l2
      · rw [st K hb] at c1
        exact absurd r2 (Int32.not_lt.mpr c1)
    obtain ⟨v, M1, -, -, -, e0, -, -, e0f, -⟩ := key M hT
    refine z_v hT e0 (fun a b c k h => ?_) (fun K hb => ?_)
    · rw [m_set_n (by omega), e0f _ _ _ _ (by omega) (by omega)]
      exact f_sv_15 h
    · obtain ⟨v', M1', K', N', B', e1, e2, e3, e4, e5⟩ := key K hb
      have ee := Option.some.inj (e0.symm.trans e1)
      have ev : v = v' := by
        have := congrArg Prod.fst ee
        cases this
        rfl
      have eM : m_set M1 5 0 0 1 0 = m_set M1' 5 0 0 1 0 := congrArg Prod.snd ee
      rw [eM, ev]
      have sv : r_T (f_sv M n) (k_sv (k_tx L (L + 1) (l_0 K)).2 n) (r_n n) N B L := o_save (l_tx_T hb (L + 1))
      have kt : ∀ a b c k, a ≠ 16 → a ≠ 17 → a ≠ 21 → ¬ (a = 15 ∧ (k = 4 ∨ k = 7 ∨ k = 8 ∨ k = 9)) → K' a b c k = k_0 K a b c k := fun a b c k z1 z2 z3 z4 => by
        rw [e5 _ _ _ _ z1, m_set_n (by omega), k_sv_o _ _ _ _ _ _ z2 (by omega), l_tx_o z3 (by omega)]
      refine ⟨K', e2, fun a b c k h => ?_, ?_, r_n n, N', B', 0, ?_⟩
      · rw [kt _ _ _ _ (by omega) (by omega) (by omega) (by omega), k_0_o _ _ _ _ _ (by omega)]
      · rw [kt _ _ _ _ (by omega) (by omega) (by omega) (by omega)]
        exact m_set_i
      · have h2 : r_T (fun a b c k => if a = 5 then m_set M1' 5 0 0 1 0 a b c k else f_sv M n a b c k) (m_set (k_sv (k_tx L (L + 1) (l_0 K)).2 n) 15 0 0 7 0) (r_n n) N B 0 := by
          refine r_Ttxt sv ⟨⟨by omega, ?_, m_set_i⟩, fun i hi => by omega, fun i hi => ?_⟩ (fun a b c k z1 z2 => if_neg z1) (fun a b c k z1 z2 z3 => m_set_n (by omega))
          · show (if 5 = 5 then m_set M1' 5 0 0 1 0 5 0 0 1 else _) = _
            rw [if_pos rfl]
            exact m_set_i
          · show m_nok 2 (if 6 = 5 then _ else f_sv M n 6 0 0 i) = true
            rw [if_neg (by decide), f_sv_o _ _ _ _ _ _ (by omega) (by omega) (by omega)]
            exact hCh i hi
        refine r_Tnow h2 (r_cg2 e3 (fun a c k hd => m_set_n (by unfold r_dm at hd; omega)) (fun _ _ => rfl)) (fun a b c k z => ?_) (fun a b c k z1 z2 z3 z4 => e5 _ _ _ _ z3)
        by_cases q : a = 5
        · subst q
          exact (if_pos rfl).symm
        · show _ = (if a = 5 then _ else f_sv M n a b c k)
          rw [if_neg q, m_set_n (by omega), e4 _ _ _ _ (by omega) (by omega)]
  · rw [if_neg c1] at day
    have e : m_cl 76 [.ref (m_lc 1 0 0)] M = some (.inr "java/lang/IllegalArgumentException", M) := by
      rw [e5_live_en]
      simp only [e5_live_0, e5_live_1, e5_live_4, e5_live_7, e5_live_10, m_k1d, m_k5, day, m_kill, m_cE_i, m_cE_v, m_cE_ite, m_kill, ne_eq, not_true_eq_false, if_true, if_false]
    refine z_e2 hT e h1 (by decide) (fun K hb => ?_)
    have r := rd K hb
    rw [l_0_20] at r
    rcases r with ⟨r1, r2, -⟩ | ⟨r1, r2, r3⟩
    · rw [← st K hb] at r2
      exact absurd r2 c1
    · have gt2 : m_cl 150 [.ref (m_lc 15 0 0)] (k_0 K) = some (.inl (some (.int (k_tx L (L + 1) (l_0 K)).1)), (k_tx L (L + 1) (l_0 K)).2) := gt K hb
      rw [r1] at gt2
      refine ⟨m_set (k_tx L (L + 1) (l_0 K)).2 15 0 0 5 1, 0, ?_, m_set_i, fun a b c k h => ?_, ?_⟩
      · rw [e6_live_en]
        simp only [e6_live_0, e6_live_1, e6_live_2, e6_live_5, e6_live_6, e6_live_9, e6_live_12, e6_live_13, e6_live_14, e6_live_17, m_k15, k_0_e, gt2, g_fails, m_kill, m_cE_i, m_cE_v, m_cE_ite, m_kill, ne_eq, not_true_eq_false, if_true, if_false]
      · rw [m_set_n (by omega), l_tx_o (by omega) (by omega), k_0_o _ _ _ _ _ (by omega)]
      · exact r_Tcg (l_tx_T hb (L + 1)) (fun _ _ _ _ _ => rfl) (fun a b c k h1 h2 h3 => m_set_n (by omega))
end LIVE
