/-! WEIGHING, BUYING, MELTING keep the two the same. -/
def k_ad (M : m_Mem) (i : Nat) (v : Int32) : m_Mem := m_set M 16 0 0 i (M 16 0 0 i + v)
theorem k_ad_i {M : m_Mem} {i : Nat} {v : Int32} : k_ad M i v 16 0 0 i = M 16 0 0 i + v := m_set_i
theorem k_ad_n {M : m_Mem} {i : Nat} {v : Int32} {a b c k : Nat} (h : ¬ (a = 16 ∧ b = 0 ∧ c = 0 ∧ k = i)) : k_ad M i v a b c k = M a b c k := m_set_n h
def k_M4 (M : m_Mem) (d c : Nat) (g : Int32) : m_Mem :=
  let p := k_price M g (M 16 0 0 8)
  let y := k_pays M g
  let t := if y / 2 < M 16 0 0 (13 + 8 * d + 1) then y / 2 else M 16 0 0 (13 + 8 * d + 1)
  let f := g * M 16 0 0 (77 + 6 * c + 0) / 1000
  k_ad (k_ad (k_ad (k_ad (m_set (k_ad (k_ad (k_ad (k_ad (k_ad (k_ad (k_ad M (13 + 8 * d + 0) (y - t)) (13 + 8 * d + 1) (-t)) (13 + 8 * d + 3) g) (13 + 8 * d + 4) f) (13 + 8 * d + 5) y) (13 + 8 * d + 6) (p - y)) (77 + 6 * c + 3) g) 16 0 0 (77 + 6 * c + 5) 1) 2 g) 3 f) 4 p) 7 1
theorem k_wi_e (M : m_Mem) (d c : Nat) (g : Int32) : k_wi M d c g = k_ad (k_M4 M d c g) 6 (if k_M4 M d c g 16 0 0 7 - k_M4 M d c g 16 0 0 7 / k_M4 M d c g 16 0 0 12 * k_M4 M d c g 16 0 0 12 = 0 ∧ k_M4 M d c g 16 0 0 6 < 50 then 1 else 0) := rfl
theorem f_cw_o {M : m_Mem} {j a b c k : Nat} (h : ¬ (a = 7 ∧ b = j ∧ c = 0 ∧ (k = 8 ∨ k = 9))) : f_cw M j a b c k = M a b c k := by
  unfold f_cw
  split
  · rw [m_set_n (by omega), m_set_n (by omega)]
  · rw [m_set_n (by omega)]
theorem f_cw_9 (M : m_Mem) (j : Nat) : f_cw M j 7 j 0 9 = M 7 j 0 9 + 1 := by
  unfold f_cw
  split
  · rw [m_set_n (by omega), m_set_i]
  · rw [m_set_i]
theorem f_cw_8 (M : m_Mem) (j : Nat) : f_cw M j 7 j 0 8 = if 0 < M 11 j 0 4 ∧ M 7 j 0 9 + 1 - (M 7 j 0 9 + 1) / M 11 j 0 4 * M 11 j 0 4 = 0 ∧ M 7 j 0 8 < 50 then M 7 j 0 8 + 1 else M 7 j 0 8 := by
  unfold f_cw
  split
  · rw [m_set_i]
  · rw [m_set_n (by omega)]
theorem i_up {x : Int32} (h1 : -50 ≤ x) (h2 : x < 50) : -50 ≤ x + 1 ∧ x + 1 ≤ 50 := by
  have h1 : (-50 : Int32).toInt ≤ x.toInt := Int32.le_iff_toInt_le.mp h1
  have h2 : x.toInt < (50 : Int32).toInt := Int32.lt_iff_toInt_lt.mp h2
  have e1 : (-50 : Int32).toInt = -50 := by decide
  have e2 : (50 : Int32).toInt = 50 := by decide
  have e3 : (1 : Int32).toInt = 1 := by decide
  have e4 : (x + 1).toInt = x.toInt + 1 := by rw [Int32.toInt_add, e3, Int.bmod_eq_of_le (by omega) (by omega)]
  exact ⟨Int32.le_iff_toInt_le.mpr (by omega), Int32.le_iff_toInt_le.mpr (by omega)⟩
section GOLD
variable {M K : m_Mem} {N B : Nat}
theorem o_weigh (h : r_C M 0 (K 16 0 0) N B) {d c : Nat} {g : Int32} (hd : d < N) (hc : c < 10) (ho : M 12 0 d 2 = nI c) (hg : 1 ≤ g ∧ g ≤ 9999) (hl : M 14 0 12 0 + g ≤ 99999) : r_C (f_wi M 0 d c g) 0 ((k_wi K d c g) 16 0 0) N B := by
  obtain ⟨hA, hD, hL, hG, hO, hV, hF, hW⟩ := h
  have hN := hA.1.1
  have hB9 := hA.2.1.1
  have pp := p_pay hA g
  have pn := p_priceN hA g
  have pf := p_fee hA g
  have e := fun k hk => hD.1 d hd k hk
  obtain ⟨l0, l1, l2, l4, l5, l3, l6, l7⟩ := hL c hc
  have how : M 13 0 c 1 = nI d := by
    rcases hO.2 d hd with h | ⟨c', h1, h2, h3⟩
    · exact absurd (ho.symm.trans h) (nI_m1 (by omega))
    · have : c' = c := (nI_eq (by omega) (by omega)).mp (h2.symm.trans ho)
      rw [← this]
      exact h3
  have hown : M 13 0 c 1 ≠ -1 := by
    rw [how]
    exact nI_m1 (by omega)
  refine ⟨?_, ?_, ?_, ?_, ?_, ?_, ?_, ?_⟩
  · obtain ⟨hN9, hB, ⟨h0, h8, h9⟩, ⟨w0, w1, w2⟩, s0, s1, s2, s3, s4⟩ := hA
    have e8 : f_wi M 0 d c g 7 0 0 8 = if 0 < M 11 0 0 4 ∧ M 7 0 0 9 + 1 - (M 7 0 0 9 + 1) / M 11 0 0 4 * M 11 0 0 4 = 0 ∧ M 7 0 0 8 < 50 then M 7 0 0 8 + 1 else M 7 0 0 8 := by
      unfold f_wi
      rw [f_cw_8]
      simp (disch := omega) only [f_rc, f_ga, m_set_n, m_set_i]
    have e9 : f_wi M 0 d c g 7 0 0 9 = M 7 0 0 9 + 1 := by
      unfold f_wi
      rw [f_cw_9]
      simp (disch := omega) only [f_rc, f_ga, m_set_n, m_set_i]
    refine ⟨⟨hN9.1, ?_, ?_⟩, ⟨hB.1, ?_, ?_⟩, ⟨?_, ?_, ?_⟩, ⟨?_, ?_, ?_⟩, ?_, ?_, ?_, ?_, ?_⟩
    · simp (disch := omega) only [f_wi, f_rc, f_ga, f_cw_o, m_set_n, m_set_i]
      exact hN9.2.1
    · simp (disch := omega) only [k_wi_e, k_M4, k_ad_n, k_ad_i, m_set_n, m_set_i]
      exact hN9.2.2
    · simp (disch := omega) only [f_wi, f_rc, f_ga, f_cw_o, m_set_n, m_set_i]
      exact hB.2.1
    · simp (disch := omega) only [k_wi_e, k_M4, k_ad_n, k_ad_i, m_set_n, m_set_i]
      exact hB.2.2
    · simp (disch := omega) only [f_wi, f_rc, f_ga, f_cw_o, k_wi_e, k_M4, k_ad_n, k_ad_i, m_set_n, m_set_i]
      exact h0
    · rw [e8]
      simp (disch := omega) only [k_wi_e, k_M4, k_ad_n, k_ad_i, m_set_n, m_set_i]
      rw [← h8, ← h9, ← s4]
      have hp : 0 < M 11 0 0 4 := Int32.lt_of_lt_of_le (by decide) hV.2.2.2.2.2.2.1
      by_cases q : M 7 0 0 9 + 1 - (M 7 0 0 9 + 1) / M 11 0 0 4 * M 11 0 0 4 = 0 ∧ M 7 0 0 8 < 50
      · rw [if_pos ⟨hp, q⟩, if_pos q]
      · rw [if_neg (fun z => q z.2), if_neg q, Int32.add_zero]
    · rw [e9]
      simp (disch := omega) only [k_wi_e, k_M4, k_ad_n, k_ad_i, m_set_n, m_set_i]
      rw [h9]
    · simp (disch := omega) only [f_wi, f_rc, f_ga, f_cw_o, k_wi_e, k_M4, k_ad_n, k_ad_i, m_set_n, m_set_i]
      rw [w0]
    · simp (disch := omega) only [f_wi, f_rc, f_ga, f_cw_o, k_wi_e, k_M4, k_ad_n, k_ad_i, m_set_n, m_set_i]
      rw [w1, l0]
    · simp (disch := omega) only [f_wi, f_rc, f_ga, f_cw_o, k_wi_e, k_M4, k_ad_n, k_ad_i, m_set_n, m_set_i]
      rw [w2, pn]
    · simp (disch := omega) only [f_wi, f_rc, f_ga, f_cw_o, k_wi_e, k_M4, k_ad_n, k_ad_i, m_set_n, m_set_i]
      exact s0
    · simp (disch := omega) only [f_wi, f_rc, f_ga, f_cw_o, k_wi_e, k_M4, k_ad_n, k_ad_i, m_set_n, m_set_i]
      exact s1
    · simp (disch := omega) only [f_wi, f_rc, f_ga, f_cw_o, k_wi_e, k_M4, k_ad_n, k_ad_i, m_set_n, m_set_i]
      exact s2
    · simp (disch := omega) only [f_wi, f_rc, f_ga, f_cw_o, k_wi_e, k_M4, k_ad_n, k_ad_i, m_set_n, m_set_i]
      exact s3
    · simp (disch := omega) only [f_wi, f_rc, f_ga, f_cw_o, k_wi_e, k_M4, k_ad_n, k_ad_i, m_set_n, m_set_i]
      exact s4
  · refine ⟨fun d' hd' k hk => ?_, fun d' h1 h2 k hk => ?_⟩
    · by_cases q : d' = d
      · subst q
        have e0 := e 0 (by decide)
        have e1 := e 1 (by decide)
        have ek : k = 0 ∨ k = 1 ∨ k = 2 ∨ k = 3 ∨ k = 4 ∨ k = 5 ∨ k = 6 ∨ k = 7 := by omega
        rcases ek with rfl | rfl | rfl | rfl | rfl | rfl | rfl | rfl
        · simp (disch := omega) only [f_wi, f_rc, f_ga, f_cw_o, k_wi_e, k_M4, k_ad_n, k_ad_i, m_set_n, m_set_i]
          rw [pp, e0, e1]
        · simp (disch := omega) only [f_wi, f_rc, f_ga, f_cw_o, k_wi_e, k_M4, k_ad_n, k_ad_i, m_set_n, m_set_i]
          rw [pp, e1, Int32.sub_eq_add_neg]
        · simp (disch := omega) only [f_wi, f_rc, f_ga, f_cw_o, k_wi_e, k_M4, k_ad_n, k_ad_i, m_set_n, m_set_i]
          exact e 2 hk
        · simp (disch := omega) only [f_wi, f_rc, f_ga, f_cw_o, k_wi_e, k_M4, k_ad_n, k_ad_i, m_set_n, m_set_i]
          rw [e 3 hk]
        · simp (disch := omega) only [f_wi, f_rc, f_ga, f_cw_o, k_wi_e, k_M4, k_ad_n, k_ad_i, m_set_n, m_set_i]
          rw [e 4 hk, l0]
        · simp (disch := omega) only [f_wi, f_rc, f_ga, f_cw_o, k_wi_e, k_M4, k_ad_n, k_ad_i, m_set_n, m_set_i]
          rw [e 5 hk, pp]
        · simp (disch := omega) only [f_wi, f_rc, f_ga, f_cw_o, k_wi_e, k_M4, k_ad_n, k_ad_i, m_set_n, m_set_i]
          rw [e 6 hk, pf]
          unfold k_pays
          rw [i_sub_sub]
        · simp (disch := omega) only [f_wi, f_rc, f_ga, f_cw_o, k_wi_e, k_M4, k_ad_n, k_ad_i, m_set_n, m_set_i]
          exact e 7 hk
      · simp (disch := omega) only [f_wi, f_rc, f_ga, f_cw_o, k_wi_e, k_M4, k_ad_n, k_ad_i, m_set_n, m_set_i]
        exact hD.1 d' hd' k hk
    · simp (disch := omega) only [f_wi, f_rc, f_ga, f_cw_o, k_wi_e, k_M4, k_ad_n, k_ad_i, m_set_n, m_set_i]
      exact hD.2 d' h1 h2 k hk
  · intro c' hc'
    by_cases q : c' = c
    · subst q
      unfold r_L1
      simp (disch := omega) only [f_wi, f_rc, f_ga, f_cw_o, k_wi_e, k_M4, k_ad_n, k_ad_i, m_set_n, m_set_i]
      exact ⟨l0, l1, l2, by rw [l4], l5, Or.inr (by trivial), fun q => absurd q hown, fun _ => by trivial⟩
    · exact r_cgL1 (hL c' hc') (fun k _ => by simp (disch := omega) only [f_wi, f_rc, f_ga, f_cw_o, m_set_n, m_set_i]) (fun k _ => by simp (disch := omega) only [k_wi_e, k_M4, k_ad_n, k_ad_i, m_set_n, m_set_i])
  · exact r_cgG hG (fun b k _ _ => by simp (disch := omega) only [f_wi, f_rc, f_ga, f_cw_o, m_set_n, m_set_i]) (fun b k _ _ => by simp (disch := omega) only [k_wi_e, k_M4, k_ad_n, k_ad_i, m_set_n, m_set_i])
  · exact r_cgO hO (fun c _ => by simp (disch := omega) only [f_wi, f_rc, f_ga, f_cw_o, m_set_n, m_set_i]) (fun d' _ => by simp (disch := omega) only [f_wi, f_rc, f_ga, f_cw_o, m_set_n, m_set_i])
  · have e8 : f_wi M 0 d c g 7 0 0 8 = if 0 < M 11 0 0 4 ∧ M 7 0 0 9 + 1 - (M 7 0 0 9 + 1) / M 11 0 0 4 * M 11 0 0 4 = 0 ∧ M 7 0 0 8 < 50 then M 7 0 0 8 + 1 else M 7 0 0 8 := by
      unfold f_wi
      rw [f_cw_8]
      simp (disch := omega) only [f_rc, f_ga, m_set_n, m_set_i]
    obtain ⟨v1, v2, v3⟩ := hV
    refine ⟨?_, ?_, ?_⟩
    · simp (disch := omega) only [f_wi, f_rc, f_ga, f_cw_o, m_set_n, m_set_i]
      exact v1
    · rw [e8]
      split
      · rename_i q
        exact i_up v2.1 q.2.2
      · exact v2
    · simp (disch := omega) only [f_wi, f_rc, f_ga, f_cw_o, m_set_n, m_set_i]
      exact v3
  · exact r_cgF hF (fun c' _ => by simp (disch := omega) only [f_wi, f_rc, f_ga, f_cw_o, m_set_n, m_set_i])
  · obtain ⟨gs, p, w, l, h1, h2, h3, h4, h5⟩ := hW
    obtain ⟨gn, g1, rfl⟩ := nI_upto (N := 9999) (Int32.le_trans (by decide) hg.1) hg.2 (by decide)
    obtain ⟨fn, f1, f2⟩ := nI_upto (N := 1000) (Int32.le_trans (by decide) (hF c hc).1) (hF c hc).2 (by decide)
    have hln : l + gn ≤ 99999 := by
      rw [h3, nI_add] at hl
      exact (nI_leI (a := l + gn) (b := 99999) (by omega) (by decide)).mp hl
    have hfe : nI gn * M 13 0 c 0 / 1000 = nI (gn * fn / 1000) := by
      have : gn * fn ≤ 9999 * 1000 := Nat.mul_le_mul g1 f1
      rw [f2, nI_mul]
      exact nI_quo (b := 1000) (by omega) (by decide) (by decide)
    have hfl : gn * fn / 1000 ≤ gn := by
      have : gn * fn ≤ gn * 1000 := Nat.mul_le_mul_left _ f1
      omega
    refine ⟨v_u gs d (gs d + gn), v_u p d (p d + gn * fn / 1000), w, l + gn, fun d' hd' => ?_, fun b hb => ?_, ?_, hln, ?_⟩
    · by_cases q : d' = d
      · subst q
        obtain ⟨z1, z2, z3⟩ := h1 d' hd'
        rw [v_u_i, v_u_i]
        refine ⟨?_, ?_, by omega⟩
        · simp (disch := omega) only [f_wi, f_rc, f_ga, f_cw_o, m_set_n, m_set_i]
          rw [z1, nI_add]
        · simp (disch := omega) only [f_wi, f_rc, f_ga, f_cw_o, m_set_n, m_set_i]
          rw [z2, hfe, nI_add]
      · rw [v_u_n gs q, v_u_n p q]
        simp (disch := omega) only [f_wi, f_rc, f_ga, f_cw_o, m_set_n, m_set_i]
        exact h1 d' hd'
    · simp (disch := omega) only [f_wi, f_rc, f_ga, f_cw_o, m_set_n, m_set_i]
      exact h2 b hb
    · simp (disch := omega) only [f_wi, f_rc, f_ga, f_cw_o, m_set_n, m_set_i]
      rw [h3, nI_add]
    · rw [v_up gs d gn N hd, h5]
      omega
theorem o_buy (h : r_C M 0 (K 16 0 0) N B) {d : Nat} {g : Int32} (hd : d < N) : r_C (f_sp M 0 d g) 0 ((k_bu K d g) 16 0 0) N B := by
  obtain ⟨hA, hD, hL, hG, hO, hV, hF, hW⟩ := h
  have hN := hA.1.1
  have hB9 := hA.2.1.1
  have e := fun k hk => hD.1 d hd k hk
  have e0 := e 0 (by decide)
  have e1 := e 1 (by decide)
  refine ⟨?_, ?_, ?_, ?_, ?_, ?_, ?_, ?_⟩
  · exact r_cgA hA (fun k => by simp (disch := omega) only [f_sp, m_set_n, m_set_i]) (fun k _ => by simp (disch := omega) only [f_sp, m_set_n, m_set_i]) (fun k _ => by simp (disch := omega) only [f_sp, m_set_n, m_set_i]) (fun i _ => by simp (disch := omega) only [k_bu, m_set_n, m_set_i])
  · refine ⟨fun d' hd' k hk => ?_, fun d' h1 h2 k hk => ?_⟩
    · by_cases q : d' = d
      · subst q
        have ek : k = 0 ∨ k = 1 ∨ k = 2 ∨ k = 3 ∨ k = 4 ∨ k = 5 ∨ k = 6 ∨ k = 7 := by omega
        rcases ek with rfl | rfl | rfl | rfl | rfl | rfl | rfl | rfl
        · simp (disch := omega) only [f_sp, k_bu, m_set_n, m_set_i]
          unfold k_lk
          rw [e0]
          split
          · rw [Int32.sub_eq_add_neg, Int32.sub_eq_add_neg, Int32.add_assoc, Int32.add_comm (-_) (-g), ← Int32.add_assoc g, ← Int32.sub_eq_add_neg g g, Int32.sub_self, Int32.zero_add, ← Int32.sub_eq_add_neg, Int32.sub_self]
          · rw [Int32.sub_eq_add_neg, Int32.sub_eq_add_neg, Int32.zero_add]
        · simp (disch := omega) only [f_sp, k_bu, m_set_n, m_set_i]
          unfold f_da k_lk
          rw [e0, e1]
          split
          · rfl
          · rw [Int32.add_zero]
        · simp (disch := omega) only [f_sp, k_bu, m_set_n, m_set_i]
          exact e 2 hk
        · simp (disch := omega) only [f_sp, k_bu, m_set_n, m_set_i]
          exact e 3 hk
        · simp (disch := omega) only [f_sp, k_bu, m_set_n, m_set_i]
          exact e 4 hk
        · simp (disch := omega) only [f_sp, k_bu, m_set_n, m_set_i]
          exact e 5 hk
        · simp (disch := omega) only [f_sp, k_bu, m_set_n, m_set_i]
          exact e 6 hk
        · simp (disch := omega) only [f_sp, k_bu, m_set_n, m_set_i]
          rw [e 7 hk]
      · simp (disch := omega) only [f_sp, k_bu, m_set_n, m_set_i]
        exact hD.1 d' hd' k hk
    · simp (disch := omega) only [f_sp, m_set_n, m_set_i]
      exact hD.2 d' h1 h2 k hk
  · exact r_cgL hL (fun c k _ _ => by simp (disch := omega) only [f_sp, m_set_n, m_set_i]) (fun c k _ _ => by simp (disch := omega) only [k_bu, m_set_n, m_set_i])
  · exact r_cgG hG (fun c k _ _ => by simp (disch := omega) only [f_sp, m_set_n, m_set_i]) (fun c k _ _ => by simp (disch := omega) only [k_bu, m_set_n, m_set_i])
  · exact r_cgO hO (fun c _ => by simp (disch := omega) only [f_sp, m_set_n, m_set_i]) (fun d' _ => by simp (disch := omega) only [f_sp, m_set_n, m_set_i])
  · exact r_cgV hV (fun k _ _ => by simp (disch := omega) only [f_sp, m_set_n, m_set_i]) (fun k _ => by simp (disch := omega) only [f_sp, m_set_n, m_set_i])
  · exact r_cgF hF (fun c _ => by simp (disch := omega) only [f_sp, m_set_n, m_set_i])
  · exact r_cgW hW (fun d' _ => ⟨by simp (disch := omega) only [f_sp, m_set_n, m_set_i], by simp (disch := omega) only [f_sp, m_set_n, m_set_i]⟩) (fun b _ => by simp (disch := omega) only [f_sp, m_set_n, m_set_i]) (by simp (disch := omega) only [f_sp, m_set_n, m_set_i])
theorem o_melt (h : r_C M 0 (K 16 0 0) N B) (hB : B < 12) (hl : 0 < M 14 0 12 0) : r_C (f_melt M 0 B) 0 ((k_me K B) 16 0 0) N (B + 1) := by
  obtain ⟨hA, hD, hL, hG, hO, hV, hF, hW⟩ := h
  have hN := hA.1.1
  have hB9 := hA.2.1.1
  obtain ⟨w0, w1, w2⟩ := hA.2.2.2.1
  refine ⟨?_, ?_, ?_, ?_, ?_, ?_, ?_, ?_⟩
  · obtain ⟨hN9, hB9, ⟨h0, h8, h9⟩, -, s0, s1, s2, s3, s4⟩ := hA
    refine ⟨⟨hN9.1, ?_, ?_⟩, ⟨hB, ?_, ?_⟩, ⟨?_, ?_, ?_⟩, ⟨?_, ?_, ?_⟩, ?_, ?_, ?_, ?_, ?_⟩
    · simp (disch := omega) only [f_melt, m_cp_o, m_cp_i, m_set_n, m_set_i]
      exact hN9.2.1
    · simp (disch := omega) only [k_me, k_mt, m_set_n, m_set_i]
      exact hN9.2.2
    · simp (disch := omega) only [f_melt, m_cp_o, m_cp_i, m_set_n, m_set_i]
    · simp (disch := omega) only [k_me, k_mt, m_set_n, m_set_i]
      rw [hB9.2.2, nI_1]
    · simp (disch := omega) only [f_melt, m_cp_o, m_cp_i, m_set_n, m_set_i]
      simp (disch := omega) only [k_me, k_mt, m_set_n, m_set_i]
      exact h0
    · simp (disch := omega) only [f_melt, m_cp_o, m_cp_i, m_set_n, m_set_i]
      simp (disch := omega) only [k_me, k_mt, m_set_n, m_set_i]
      exact h8
    · simp (disch := omega) only [f_melt, m_cp_o, m_cp_i, m_set_n, m_set_i]
      simp (disch := omega) only [k_me, k_mt, m_set_n, m_set_i]
      exact h9
    · simp (disch := omega) only [f_melt, m_cp_o, m_cp_i, m_set_n, m_set_i]
      simp (disch := omega) only [k_me, k_mt, m_set_n, m_set_i]
    · simp (disch := omega) only [f_melt, m_cp_o, m_cp_i, m_set_n, m_set_i]
      simp (disch := omega) only [k_me, k_mt, m_set_n, m_set_i]
    · simp (disch := omega) only [f_melt, m_cp_o, m_cp_i, m_set_n, m_set_i]
      simp (disch := omega) only [k_me, k_mt, m_set_n, m_set_i]
    · simp (disch := omega) only [f_melt, m_cp_o, m_cp_i, m_set_n, m_set_i]
      simp (disch := omega) only [k_me, k_mt, m_set_n, m_set_i]
      exact s0
    · simp (disch := omega) only [f_melt, m_cp_o, m_cp_i, m_set_n, m_set_i]
      simp (disch := omega) only [k_me, k_mt, m_set_n, m_set_i]
      exact s1
    · simp (disch := omega) only [f_melt, m_cp_o, m_cp_i, m_set_n, m_set_i]
      simp (disch := omega) only [k_me, k_mt, m_set_n, m_set_i]
      exact s2
    · simp (disch := omega) only [f_melt, m_cp_o, m_cp_i, m_set_n, m_set_i]
      simp (disch := omega) only [k_me, k_mt, m_set_n, m_set_i]
      exact s3
    · simp (disch := omega) only [f_melt, m_cp_o, m_cp_i, m_set_n, m_set_i]
      simp (disch := omega) only [k_me, k_mt, m_set_n, m_set_i]
      exact s4
  · exact r_cgD hD hN (fun d k _ _ => by simp (disch := omega) only [f_melt, m_cp_o, m_cp_i, m_set_n, m_set_i]) (fun d k _ _ => by simp (disch := omega) only [k_me, k_mt, m_set_n, m_set_i])
  · exact r_cgL hL (fun c k _ _ => by simp (disch := omega) only [f_melt, m_cp_o, m_cp_i, m_set_n, m_set_i]) (fun c k _ _ => by simp (disch := omega) only [k_me, k_mt, m_set_n, m_set_i])
  · intro b hb
    by_cases q : b = B
    · subst q
      refine ⟨?_, ?_, ?_⟩
      · simp (disch := omega) only [f_melt, m_cp_o, m_cp_i, m_set_n, m_set_i]
        simp (disch := omega) only [k_me, k_mt, m_set_n, m_set_i]
        exact w0
      · simp (disch := omega) only [f_melt, m_cp_o, m_cp_i, m_set_n, m_set_i]
        simp (disch := omega) only [k_me, k_mt, m_set_n, m_set_i]
        exact w1
      · simp (disch := omega) only [f_melt, m_cp_o, m_cp_i, m_set_n, m_set_i]
        simp (disch := omega) only [k_me, k_mt, m_set_n, m_set_i]
        exact w2
    · obtain ⟨b0, b1, b2⟩ := hG b hb
      refine ⟨?_, ?_, ?_⟩
      · simp (disch := omega) only [f_melt, m_cp_o, m_cp_i, m_set_n, m_set_i]
        simp (disch := omega) only [k_me, k_mt, m_set_n, m_set_i]
        exact b0
      · simp (disch := omega) only [f_melt, m_cp_o, m_cp_i, m_set_n, m_set_i]
        simp (disch := omega) only [k_me, k_mt, m_set_n, m_set_i]
        exact b1
      · simp (disch := omega) only [f_melt, m_cp_o, m_cp_i, m_set_n, m_set_i]
        simp (disch := omega) only [k_me, k_mt, m_set_n, m_set_i]
        exact b2
  · exact r_cgO hO (fun c _ => by simp (disch := omega) only [f_melt, m_cp_o, m_cp_i, m_set_n, m_set_i]) (fun d _ => by simp (disch := omega) only [f_melt, m_cp_o, m_cp_i, m_set_n, m_set_i])
  · exact r_cgV hV (fun k _ _ => by simp (disch := omega) only [f_melt, m_cp_o, m_cp_i, m_set_n, m_set_i]) (fun k _ => by simp (disch := omega) only [f_melt, m_cp_o, m_cp_i, m_set_n, m_set_i])
  · exact r_cgF hF (fun c _ => by simp (disch := omega) only [f_melt, m_cp_o, m_cp_i, m_set_n, m_set_i])
  · obtain ⟨gs, p, w, l, h1, h2, h3, h4, h5⟩ := hW
    have hl1 : 1 ≤ l := by
      rw [h3] at hl
      exact (nI_ltI (a := 0) (b := l) (by decide) (by omega)).mp hl
    refine ⟨gs, p, v_u w B l, 0, fun d hd => ?_, fun b hb => ?_, ?_, by omega, ?_⟩
    · simp (disch := omega) only [f_melt, m_cp_o, m_cp_i, m_set_n, m_set_i]
      exact h1 d hd
    · by_cases q : b = B
      · subst q
        rw [v_u_i]
        refine ⟨?_, hl1, h4⟩
        simp (disch := omega) only [f_melt, m_cp_o, m_cp_i, m_set_n, m_set_i]
        exact h3
      · rw [v_u_n w q]
        simp (disch := omega) only [f_melt, m_cp_o, m_cp_i, m_set_n, m_set_i]
        exact h2 b (by omega)
    · simp (disch := omega) only [f_melt, m_cp_o, m_cp_i, m_set_n, m_set_i]
      rfl
    · show v_s gs N = 0 + (v_s (v_u w B l) B + v_u w B l B)
      rw [v_u_i, v_cg (g := w) B (fun i hi => v_u_n w (by omega : i ≠ B)), h5]
      omega
end GOLD
