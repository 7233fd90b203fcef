/-! THE LAW'S SUMS AND THE CLASS'S CALLS, in pairs: the answers are the same, and what holds goes on to hold. -/
/-- L: the script's length; c: exceptions caught so far -/
def y_V (M : m_Mem) (L n N B c : Nat) : Prop := y_W M (y_K M) n N B ∧ y_f (y_K M) ∧ (M 5 0 0 1 = 0 ∧ ∀ i, i < 60 → m_nok 2 (M 6 0 0 i) = true) ∧ M 28 0 0 0 = nI c ∧ M 27 0 0 0 = nI L
def y_VV (M : m_Mem) (L c : Nat) : Prop := ∃ n N B, y_V M L n N B c
/-- the law's sum X and its call Y answer the same -/
def y_P (X Y : Nat) (as bs : List Value) (M : m_Mem) (L c : Nat) : Prop := ∃ v M1 M2 c', m_cl X as M = some (.inl (some (.int v)), M1) ∧ m_cl Y bs M1 = some (.inl (some (.int v)), M2) ∧ y_VV M2 L c' ∧ c' ≤ c + 1
section FRAMES
variable {M : m_Mem}
theorem w_lst {d c : Nat} {a b c' k : Nat} (h : a < 16 ∨ 19 < a) : l_st M d c a b c' k = M a b c' k := by
  unfold l_st
  simp (disch := omega) only [m_set_n]
theorem w_lbu {d : Nat} {g : Int32} {a b c' k : Nat} (h : a < 16 ∨ 19 < a) : l_bu M d g a b c' k = M a b c' k := by
  unfold l_bu
  simp (disch := omega) only [m_set_n]
theorem w_lme {d : Nat} {a b c' k : Nat} (h : a < 16 ∨ 19 < a) : l_me M d a b c' k = M a b c' k := by
  unfold l_me
  simp (disch := omega) only [m_set_n]
theorem w_lad {z i : Nat} {v : Int32} {a b c' k : Nat} (h : a < 16 ∨ 19 < a) (hz : 16 ≤ z ∧ z ≤ 19) : l_ad M z i v a b c' k = M a b c' k := l_ad_n (by omega)
theorem w_lwi {d c : Nat} {g : Int32} {a b c' k : Nat} (h : a < 16 ∨ 19 < a) : l_wi M d c g a b c' k = M a b c' k := by
  unfold l_wi l_M5 l_M4 l_M3
  simp (disch := omega) only [l_ad_n, m_set_n]
theorem w_lp1 {n : Nat} {a b c' k : Nat} (h : a < 16 ∨ 19 < a) : l_p1 M n a b c' k = M a b c' k := by
  unfold l_p1 l_q1
  split
  · simp (disch := omega) only [m_set_n]
  · simp (disch := omega) only [l_ad_n, m_set_n]
theorem w_lpn {a b c' k : Nat} (h : a < 16 ∨ 19 < a) : ∀ n, l_pn M n a b c' k = M a b c' k
  | 0 => rfl
  | n + 1 => (w_lp1 h).trans (w_lpn h n)
theorem w_ldy {a b c' k : Nat} (h : a < 16 ∨ 19 < a) : l_dy M a b c' k = M a b c' k := by
  unfold l_dy
  rw [l_ad_n (by omega), w_lpn h]
theorem w_ldn {a b c' k : Nat} (h : a < 16 ∨ 19 < a) : ∀ n, l_dn M n a b c' k = M a b c' k
  | 0 => rfl
  | n + 1 => (w_ldy h).trans (w_ldn h n)
end FRAMES
section PAIRS
variable {M M1 M2 : m_Mem} {L n N B c : Nat}
theorem y_V1 (h : y_V M L n N B c) (f : ∀ a b c k, (a < 16 ∨ 19 < a) → M1 a b c k = M a b c k) : y_W M1 (y_K M) n N B :=
  y_Wcg h.1 (fun a b c k _ _ => f _ _ _ _ (by omega)) (fun _ _ => rfl)
theorem y_fin {n' N' B' : Nat} (h : y_V M L n N B c) (f : ∀ a b c k, (a < 16 ∨ 19 < a) → M1 a b c k = M a b c k) (hW : y_W M2 (y_K M1) n' N' B') (hF : y_f (y_K M1)) (g : ∀ a b c k, (15 ≤ a ∨ a = 5 ∨ a = 6) → M2 a b c k = M1 a b c k) : y_VV M2 L c := by
  have e : y_K M2 = y_K M1 := y_cg (fun a b c k _ _ => g _ _ _ _ (by omega))
  obtain ⟨-, -, ⟨h5, h6⟩, h28, h27⟩ := h
  refine ⟨n', N', B', by rw [e]; exact hW, by rw [e]; exact hF, ⟨?_, fun i hi => ?_⟩, ?_, ?_⟩
  · rw [g _ _ _ _ (by omega), f _ _ _ _ (by omega)]
    exact h5
  · rw [g _ _ _ _ (by omega), f _ _ _ _ (by omega)]
    exact h6 i hi
  · rw [g _ _ _ _ (by omega), f _ _ _ _ (by omega)]
    exact h28
  · rw [g _ _ _ _ (by omega), f _ _ _ _ (by omega)]
    exact h27
theorem y_bump (h : y_V M L n N B c) : y_V (m_bump M) L n N B (c + 1) := by
  have o : ∀ a b c k, a ≠ 28 → m_bump M a b c k = M a b c k := fun a b c k q => by unfold m_bump; rw [m_set_n (by omega)]
  have e : y_K (m_bump M) = y_K M := y_cg (fun a b c k _ _ => o _ _ _ _ (by omega))
  obtain ⟨h1, h2, ⟨h5, h6⟩, h28, h27⟩ := h
  refine ⟨?_, by rw [e]; exact h2, ⟨?_, fun i hi => ?_⟩, ?_, ?_⟩
  · rw [e]
    exact y_Wcg h1 (fun a b c k _ _ => o _ _ _ _ (by omega)) (fun _ _ => rfl)
  · rw [o _ _ _ _ (by decide)]
    exact h5
  · rw [o _ _ _ _ (by decide)]
    exact h6 i hi
  · unfold m_bump
    rw [m_set_i, h28, nI_1]
  · rw [o _ _ _ _ (by decide)]
    exact h27
theorem y_cnt (h : y_V M L n N B c) (hc : c < 100000) : 0 ≤ M 28 0 0 0 ∧ M 28 0 0 0 < 100000 := by
  rw [h.2.2.2.1]
  exact ⟨nI_pos' (by omega), (nI_lt hc (by decide) : nI c < nI 100000)⟩
theorem y_has0 {d : Nat} (hd : d < 2 ^ 31) (h : N ≤ d) (v : Int32) (hv : v = nI N) : f_has (nI d) v 8 = 0 := by
  unfold f_has
  rw [if_neg]
  rintro ⟨-, h2, -⟩
  rw [hv] at h2
  exact absurd h2 (nI_nlt h hd)
theorem y_has1 {d : Nat} (hN : N ≤ 8) (h : d < N) (v : Int32) (hv : v = nI N) : f_has (nI d) v 8 = 1 := by
  unfold f_has
  rw [if_pos ⟨nI_pos' (by omega), by rw [hv]; exact nI_lt h (by omega), (nI_lt (by omega) (by decide) : nI d < nI 8)⟩]
theorem y_bw {a l u : Nat} (h1 : l ≤ a) (h2 : a ≤ u) (hu : u < 2 ^ 31) : f_bw (nI a) (nI l) (nI u) = 1 := f_bw1 ⟨nI_le h1 (by omega), nI_le h2 hu⟩
theorem y_N (h : y_V M L n N B c) : M 16 0 0 1 = nI N ∧ N ≤ 8 ∧ M 16 0 0 5 = nI B ∧ B ≤ 12 ∧ M 7 0 0 5 = nI N := by
  have hA := h.1.2.2.1.1
  obtain ⟨⟨a1, a2, a3⟩, ⟨b1, b2, b3⟩, -⟩ := hA
  rw [y_16 (by decide)] at a3 b3
  exact ⟨a3, a1, b3, b1, a2⟩
-- the rows y_f
theorem y_f_st {K : m_Mem} (h : y_f K) {d c : Nat} (hd : d < 8) (hc : c < 10) : y_f (k_st K d c) := by
  intro c' hc' hl
  unfold k_st at hl ⊢
  by_cases e : c' = c
  · subst e
    simp (disch := omega) only [m_set_n, m_set_i]
  · simp (disch := omega) only [m_set_n, m_set_i] at hl ⊢
    exact h c' hc' hl
theorem y_f_fr {K : m_Mem} (h : y_f K) {d c : Nat} (hd : d < 8) (hc : c < 10) : y_f (k_fr K d c) := by
  intro c' hc' hl
  unfold k_fr at hl ⊢
  by_cases e : c' = c
  · subst e
    simp (disch := omega) only [m_set_n, m_set_i]
  · simp (disch := omega) only [m_set_n, m_set_i] at hl ⊢
    exact h c' hc' hl
theorem y_f_o {K K' : m_Mem} (h : y_f K) (f : ∀ c j, c < 10 → (j = 1 ∨ j = 2) → K' 16 0 0 (77 + 6 * c + j) = K 16 0 0 (77 + 6 * c + j)) : y_f K' := fun c hc hl => by
  rw [f c 1 hc (by omega)] at hl
  rw [f c 2 hc (by omega)]
  exact h c hc hl
theorem y_f_wi {K : m_Mem} (h : y_f K) {d c : Nat} {g : Int32} (hd : d < 8) (hc : c < 10) : y_f (k_wi K d c g) := y_f_o h (fun c' j hc' hj => by simp (disch := omega) only [k_wi_e, k_M4, k_ad_n, m_set_n])
theorem y_f_bu {K : m_Mem} (h : y_f K) {d : Nat} {g : Int32} (hd : d < 8) : y_f (k_bu K d g) := y_f_o h (fun c' j hc' hj => by simp (disch := omega) only [k_bu, m_set_n])
theorem y_f_me {K : m_Mem} (h : y_f K) {b : Nat} : y_f (k_me K b) := y_f_o h (fun c' j hc' hj => by simp (disch := omega) only [k_me, k_mt, m_set_n])
/-- after a call that saved: frames -/
theorem y_svf (hM1 : ∀ a b c k, (b ≠ 0 ∨ a < 7 ∨ 15 ≤ a) → M2 a b c k = f_sv M1 n a b c k) : ∀ a b c k, (15 ≤ a ∨ a = 5 ∨ a = 6) → M2 a b c k = M1 a b c k := by
  intro a b c k h
  rw [hM1 _ _ _ _ (by omega)]
  by_cases h15 : 15 ≤ a
  · exact f_sv_15 h15
  · unfold f_sv
    split
    · rw [m_set_n (by omega), f_cm_n (by omega)]
    · rw [m_set_n (by omega), f_cm_n (by omega), m_set_n (by omega)]
      exact if_neg (by omega)
theorem p_stake (h : y_V M L n N B c) (hcn : c < 99999) (d q : Nat) (hd : d < 16) (hq : q < 10) : y_P 103 84 [.ref (m_lc 16 0 0), .ref (m_lc 17 0 0), .ref (m_lc 18 0 0), .int (nI d), .int (nI q)] [.ref (m_lc 1 0 0), .int (nI d), .int (nI q)] M L c := by
  obtain ⟨hN, hN8, hB, hB12, h75⟩ := y_N h
  have l := l_stakes hN hN8 d q hd hq
  have cc := y_cnt h (by omega)
  by_cases h1 : N ≤ d
  · rw [if_pos h1] at l
    have e := a_stake (y_fI h.1) (nI d) (nI q)
    rw [if_pos (y_has0 (by omega) h1 _ h75)] at e
    exact ⟨_, _, _, _, l, u_stake_O _ _ e cc, ⟨n, N, B, y_bump h⟩, Nat.le_refl _⟩
  · rw [if_neg h1] at l
    have hd8 : d < N := by omega
    have hC := h.1.2.2.1
    have hh := y_has1 (N := N) hN8 hd8 _ h75
    have hbw : f_bw (nI q) 0 9 = 1 := y_bw (l := 0) (u := 9) (by omega) (by omega) (by decide)
    have w1 := (z_own hC hd8).1
    have w2 := z_who hC hq
    rw [y_17 (by omega) (by decide)] at w1
    rw [y_18 hq (by decide)] at w2
    by_cases h2 : 0 ≤ M 17 0 0 (8 * d + 2) ∨ 0 ≤ M 18 0 0 (6 * q + 1)
    · rw [if_pos h2] at l
      have e := a_stake (y_fI h.1) (nI d) (nI q)
      rw [if_neg (by rw [hh]; decide), if_neg (by rw [hbw]; decide), nI_clamp (by omega), nI_clamp (by omega), if_neg (fun z => h2.elim (fun y => w1.mp y z.1) (fun y => w2.mp y z.2))] at e
      exact ⟨_, _, _, _, l, u_stake_S _ _ e cc, ⟨n, N, B, y_bump h⟩, Nat.le_refl _⟩
    · rw [if_neg h2] at l
      have f : ∀ a b c' k, (a < 16 ∨ 19 < a) → l_st M d q a b c' k = M a b c' k := fun a b c' k hh => w_lst hh
      have hW := y_V1 h f
      have e := a_stake (y_fI hW) (nI d) (nI q)
      have z1 : M 12 0 d 2 = -1 := Decidable.byContradiction fun z => h2 (Or.inl (w1.mpr z))
      have z2 : M 13 0 q 1 = -1 := Decidable.byContradiction fun z => h2 (Or.inr (w2.mpr z))
      have cd : (nI d).toNatClampNeg = d := nI_clamp (by omega)
      have cq : (nI q).toNatClampNeg = q := nI_clamp (by omega)
      rw [f _ _ _ _ (by omega), hh, if_neg (by decide), if_neg (by rw [hbw]; decide), cd, cq, f _ _ _ _ (by omega), f _ _ _ _ (by omega), if_pos ⟨z1, z2⟩] at e
      have hT := y_take (y_sv hW) hd8 hq (by rw [f_sv_o _ _ _ _ _ _ (by decide) (by decide) (by decide), f _ _ _ _ (by omega)]; exact z2)
      rw [← y_st M (by omega) hq] at hT
      rw [z_taken hT.2.2.1] at e
      exact ⟨_, _, _, _, l, u_stake _ _ e, y_fin h f hT (by rw [y_st M (by omega) hq]; exact y_f_st h.2.1 (by omega) hq) (y_svf (fun a b c' k hh => w_take hh)), Nat.le_succ _⟩
theorem y_6 (h : y_V M L n N B c) : -50 ≤ M 16 0 0 6 ∧ M 16 0 0 6 ≤ 50 := by
  have hC := h.1.2.2.1
  have h8 := hC.1.2.2.1.2.1
  rw [y_16 (by decide)] at h8
  rw [← h8]
  exact hC.2.2.2.2.2.1.2.1
theorem y_12 (h : y_V M L n N B c) : ¬ M 16 0 0 12 = 0 := by
  have := z_12 h.1.2.2.1
  rw [y_16 (by decide)] at this
  exact this
theorem y_cl (h : y_V M L n N B c) {d : Nat} (hd : d < N) : M 17 0 0 (8 * d + 2) < 0 ∨ ∃ q, q < 10 ∧ M 17 0 0 (8 * d + 2) = nI q := by
  have hN8 := h.1.2.2.1.1.1.1
  have := z_kD2 h.1.2.2.1 d hd
  rw [y_17 (by omega) (by decide)] at this
  exact this
theorem p_weigh (h : y_V M L n N B c) (hcn : c < 99999) (d g : Nat) (hd : d < 16) (hg : 1 ≤ g ∧ g ≤ 9999) : y_P 105 87 [.ref (m_lc 16 0 0), .ref (m_lc 17 0 0), .ref (m_lc 18 0 0), .int (nI d), .int (nI g)] [.ref (m_lc 1 0 0), .int (nI d), .int (nI g)] M L c := by
  obtain ⟨hN, hN8, hB, hB12, h75⟩ := y_N h
  have l := l_weighs hN hN8 (y_12 h) d hd (nI g) (fun hd => y_cl h hd)
  have cc := y_cnt h (by omega)
  have hC := h.1.2.2.1
  by_cases h1 : N ≤ d
  · rw [if_pos h1] at l
    have e := a_weigh (y_fI h.1) hC.2.2.2.2.1.2 (nI d) (nI g)
    rw [if_pos (y_has0 (by omega) h1 _ h75)] at e
    exact ⟨_, _, _, _, l, u_weigh_O _ _ e cc, ⟨n, N, B, y_bump h⟩, Nat.le_refl _⟩
  · rw [if_neg h1] at l
    have hd8 : d < N := by omega
    have hh := y_has1 (N := N) hN8 hd8 _ h75
    have hbw : f_bw (nI g) 1 9999 = 1 := y_bw (l := 1) (u := 9999) hg.1 hg.2 (by decide)
    have w1 := (z_own hC hd8).2
    have cd : (nI d).toNatClampNeg = d := nI_clamp (by omega)
    rw [y_17 (by omega) (by decide)] at w1
    have w2 : M 14 0 12 0 = M 16 0 0 2 := by
      have := hC.1.2.2.2.1.1
      rw [y_16 (by decide)] at this
      exact this
    by_cases h2 : M 17 0 0 (8 * d + 2) < 0 ∨ 99999 < nI g + M 16 0 0 2
    · rw [if_pos h2] at l
      have e := a_weigh (y_fI h.1) hC.2.2.2.2.1.2 (nI d) (nI g)
      rw [if_neg (by rw [hh]; decide), if_neg (by rw [hbw]; decide), cd, if_neg (fun z => h2.elim (fun y => z.1 (w1.mp y)) (fun y => by rw [Int32.add_comm, ← w2] at y; exact Int32.not_lt.mpr z.2 y))] at e
      exact ⟨_, _, _, _, l, u_weigh_S _ _ e cc, ⟨n, N, B, y_bump h⟩, Nat.le_refl _⟩
    · rw [if_neg h2] at l
      have z1 : ¬ M 12 0 d 2 = -1 := fun z => h2 (Or.inl (w1.mpr z))
      have z2 : M 14 0 12 0 + nI g ≤ 99999 := Int32.not_lt.mp (fun z => h2 (Or.inr (by rw [Int32.add_comm, ← w2]; exact z)))
      obtain ⟨q, hq, ho, -⟩ := (hC.2.2.2.2.1.2 d hd8).resolve_left z1
      have eo : M 17 0 0 (8 * d + 2) = nI q := by
        rw [← ho, hC.2.1.1 d hd8 2 (by decide), y_17 (by omega) (by decide)]
      have cq : (nI q).toNatClampNeg = q := nI_clamp (by omega)
      rw [eo, cq] at l
      have f : ∀ a b c' k, (a < 16 ∨ 19 < a) → l_wi M d q (nI g) a b c' k = M a b c' k := fun a b c' k hh => w_lwi hh
      have hW := y_V1 h f
      have e := a_weigh (y_fI hW) hW.2.2.1.2.2.2.2.1.2 (nI d) (nI g)
      rw [f _ _ _ _ (by omega), hh, if_neg (by decide), if_neg (by rw [hbw]; decide), cd, f _ _ _ _ (by omega), f _ _ _ _ (by omega), if_pos ⟨z1, z2⟩, ho, cq] at e
      have hS := y_sv hW
      have hT := y_weigh hS (c := q) (g := nI g) hd8 hq (by rw [f_sv_o _ _ _ _ _ _ (by decide) (by decide) (by decide), f _ _ _ _ (by omega)]; exact ho) ⟨nI_le hg.1 (by omega), nI_le hg.2 (by decide)⟩ (by rw [f_sv_o _ _ _ _ _ _ (by decide) (by decide) (by decide), f _ _ _ _ (by omega)]; exact z2)
      rw [p_pay hS.2.2.1.1, ← y_pays] at e
      have hK := y_wi (M := M) (d := d) (c := q) (by omega) hq (nI g) (y_6 h).2
      rw [← hK] at hT
      exact ⟨_, _, _, _, l, u_weigh _ _ e, y_fin h f hT (by rw [hK]; exact y_f_wi h.2.1 (by omega) hq) (y_svf (fun a b c' k hh => w_wi hh)), Nat.le_succ _⟩
theorem p_buy (h : y_V M L n N B c) (hcn : c < 99999) (d g : Nat) (hd : d < 16) (hg : 1 ≤ g ∧ g ≤ 9999) : y_P 106 88 [.ref (m_lc 16 0 0), .ref (m_lc 17 0 0), .int (nI d), .int (nI g)] [.ref (m_lc 1 0 0), .int (nI d), .int (nI g)] M L c := by
  obtain ⟨hN, hN8, hB, hB12, h75⟩ := y_N h
  have l := l_buys hN hN8 d hd (nI g)
  have cc := y_cnt h (by omega)
  have hC := h.1.2.2.1
  by_cases h1 : N ≤ d
  · rw [if_pos h1] at l
    have e := a_buy (y_fI h.1) (nI d) (nI g)
    rw [if_pos (y_has0 (by omega) h1 _ h75)] at e
    exact ⟨_, _, _, _, l, u_buy_O _ _ e cc, ⟨n, N, B, y_bump h⟩, Nat.le_refl _⟩
  · rw [if_neg h1] at l
    have hd8 : d < N := by omega
    have hh := y_has1 (N := N) hN8 hd8 _ h75
    have hbw : f_bw (nI g) 1 9999 = 1 := y_bw (l := 1) (u := 9999) hg.1 hg.2 (by decide)
    have cd : (nI d).toNatClampNeg = d := nI_clamp (by omega)
    have w1 : f_da M 0 d (nI g) = M 17 0 0 (8 * d + 1) + nI g - (if nI g < M 17 0 0 (8 * d) then nI g else M 17 0 0 (8 * d)) := by
      rw [z_lk hC hd8]
      unfold k_lk
      have e0 : y_K M 16 0 0 (13 + 8 * d + 0) = M 17 0 0 (8 * d) := y_170 (by omega)
      rw [e0, y_17 (by omega) (by decide), i_lk, Int32.sub_eq_add_neg, Int32.sub_eq_add_neg, Int32.add_assoc]
    by_cases h2 : 5000 < M 17 0 0 (8 * d + 1) + nI g - (if nI g < M 17 0 0 (8 * d) then nI g else M 17 0 0 (8 * d))
    · rw [if_pos h2] at l
      have e := a_buy (y_fI h.1) (nI d) (nI g)
      rw [if_neg (by rw [hh]; decide), if_neg (by rw [hbw]; decide), cd, if_neg (by rw [w1]; exact Int32.not_le.mpr h2)] at e
      exact ⟨_, _, _, _, l, u_buy_S _ _ e cc, ⟨n, N, B, y_bump h⟩, Nat.le_refl _⟩
    · rw [if_neg h2] at l
      rw [← w1] at h2
      have z1 : f_da M 0 d (nI g) ≤ 5000 := Int32.not_lt.mp h2
      have f : ∀ a b c' k, (a < 16 ∨ 19 < a) → l_bu M d (nI g) a b c' k = M a b c' k := fun a b c' k hh => w_lbu hh
      have hW := y_V1 h f
      have fd : ∀ M' : m_Mem, (∀ k, M' 12 0 d k = M 12 0 d k) → f_da M' 0 d (nI g) = f_da M 0 d (nI g) := fun M' q => by unfold f_da; rw [q, q]
      have e := a_buy (y_fI hW) (nI d) (nI g)
      rw [f _ _ _ _ (by omega), hh, if_neg (by decide), if_neg (by rw [hbw]; decide), cd, fd _ (fun k => f _ _ _ _ (by omega)), if_pos z1] at e
      have hS := y_sv hW
      have hT := y_buy hS (g := nI g) hd8 ⟨nI_le hg.1 (by omega), nI_le hg.2 (by decide)⟩ (by rw [fd _ (fun k => by rw [f_sv_o _ _ _ _ _ _ (by decide) (by decide) (by omega), f _ _ _ _ (by omega)])]; exact z1)
      have hK := y_bu (M := M) (d := d) (by omega) (nI g)
      rw [← hK] at hT
      rw [hT.2.2.1.2.1.1 d hd8 1 (by decide), y_17 (by omega) (by decide)] at e
      exact ⟨_, _, _, _, l, u_buy _ _ e, y_fin h f hT (by rw [hK]; exact y_f_bu h.2.1 (by omega)) (y_svf (fun a b c' k hh => w_sp hh)), Nat.le_succ _⟩
theorem p_melt (h : y_V M L n N B c) (hcn : c < 99999) : y_P 107 89 [.ref (m_lc 16 0 0), .ref (m_lc 19 0 0)] [.ref (m_lc 1 0 0)] M L c := by
  obtain ⟨hN, hN8, hB, hB12, h75⟩ := y_N h
  have l := l_melts hB hB12
  have cc := y_cnt h (by omega)
  have hC := h.1.2.2.1
  have w2 : M 14 0 12 0 = M 16 0 0 2 := by
    have := hC.1.2.2.2.1.1
    rw [y_16 (by decide)] at this
    exact this
  have w0 : (0 < M 14 0 12 0) ↔ ¬ M 16 0 0 2 = 0 := by
    obtain ⟨gs, ps, w, l, z1, z2, z3, z4, z5⟩ := hC.2.2.2.2.2.2.2
    rw [← w2, z3]
    have k1 : (0 < nI l) ↔ 0 < l := nI_ltI (a := 0) (b := l) (by decide) (by omega)
    have k2 : (nI l = 0) ↔ l = 0 := nI_eq (a := l) (b := 0) (by omega) (by decide)
    rw [k1, k2]
    omega
  by_cases h2 : M 16 0 0 2 = 0 ∨ B = 12
  · rw [if_pos h2] at l
    have e := a_melt (y_fI h.1)
    rw [if_neg (fun z => h2.elim (fun y => w0.mp z.1 y) (fun y => by omega))] at e
    exact ⟨_, _, _, _, l, u_melt_S e cc, ⟨n, N, B, y_bump h⟩, Nat.le_refl _⟩
  · rw [if_neg h2] at l
    have z1 : 0 < M 14 0 12 0 := w0.mpr (fun z => h2 (Or.inl z))
    have z2 : B < 12 := by omega
    have f : ∀ a b c' k, (a < 16 ∨ 19 < a) → l_me M B a b c' k = M a b c' k := fun a b c' k hh => w_lme hh
    have hW := y_V1 h f
    have e := a_melt (y_fI hW)
    rw [f _ _ _ _ (by omega), if_pos ⟨z1, z2⟩] at e
    have hT := y_melt (y_sv hW) z2 (by rw [f_sv_o _ _ _ _ _ _ (by decide) (by decide) (by decide), f _ _ _ _ (by omega)]; exact z1)
    have hK : y_K (l_me M B) = k_me (y_K M) B := y_me.mpr (by rw [hB, nI_1])
    rw [← hK] at hT
    exact ⟨_, _, _, _, l, u_melt e, y_fin h f hT (by rw [hK]; exact y_f_me h.2.1) (y_svf (fun a b c' k hh => w_melt hh)), Nat.le_succ _⟩
theorem p_pass (h : y_V M L n N B c) (hcn : c < 99999) (v : Nat) (hv : 1 ≤ v ∧ v ≤ 30) : y_P 108 91 [.ref (m_lc 16 0 0), .ref (m_lc 17 0 0), .ref (m_lc 18 0 0), .int (nI v)] [.ref (m_lc 1 0 0), .int (nI v)] M L c := by
  have cc := y_cnt h (by omega)
  have hC := h.1.2.2.1
  have w0 : M 7 0 0 7 = M 16 0 0 0 := by
    have := hC.1.2.2.1.1
    rw [y_16 (by decide)] at this
    exact this
  have hE : M 7 0 0 7 + nI v ≤ 9999 → ∀ i, i < v → k_ok (k_dn (y_K M) i) := fun q i hi => o_kok (o_dn hC hv.2 q i (by omega)).1
  have l := l_passes (M := M) v (by omega) (fun q i hi => y_dlok h.2.1 (hE (by rw [w0]; exact q)) hi)
  have hbw : f_bw (nI v) 1 30 = 1 := y_bw (l := 1) (u := 30) hv.1 hv.2 (by decide)
  have cv : (nI v).toNatClampNeg = v := nI_clamp (by omega)
  have e7 : ∀ M' : m_Mem, f_sv M' n 7 0 0 7 = M' 7 0 0 7 := fun M' => f_sv_o M' n 7 0 0 7 (by decide) (by decide) (by decide)
  by_cases h2 : M 16 0 0 0 + nI v ≤ 9999
  · rw [if_pos h2] at l
    have f : ∀ a b c' k, (a < 16 ∨ 19 < a) → l_dn M v a b c' k = M a b c' k := fun a b c' k hh => w_ldn hh v
    have hW := y_V1 h f
    have hS := y_sv hW
    have z1 : f_sv (l_dn M v) n 7 0 0 7 + nI v ≤ 9999 := by
      rw [e7, f _ _ _ _ (by omega), w0]
      exact h2
    have hD := fun i hi => y_days hS hv.2 z1 i hi
    have e := a_pass (y_fI hW) (nI v) (fun _ _ i hi => o_fok (hD i (by rw [cv] at hi; omega)).1.2.2.1)
    rw [if_neg (by rw [hbw]; decide), f _ _ _ _ (by omega), w0, if_pos h2, cv] at e
    obtain ⟨hT, hL⟩ := hD v (Nat.le_refl _)
    obtain ⟨k1, k2, k3⟩ := y_dn h.2.1 (hE (by rw [w0]; exact h2)) v (Nat.le_refl _)
    rw [hL, ← k3] at e
    rw [← k1] at hT k2
    exact ⟨_, _, _, _, l, u_pass _ e, y_fin h f hT k2 (y_svf (fun a b c' k hh => w_dn hh _)), Nat.le_succ _⟩
  · rw [if_neg h2] at l
    have e := a_pass (y_fI h.1) (nI v) (fun _ q i hi => o_fok (y_days (y_sv h.1) hv.2 (by rw [e7]; exact q) i (by rw [cv] at hi; omega)).1.2.2.1)
    rw [if_neg (by rw [hbw]; decide), w0, if_neg h2] at e
    exact ⟨_, _, _, _, l, u_pass_S _ e cc, ⟨n, N, B, y_bump h⟩, Nat.le_refl _⟩
end PAIRS
