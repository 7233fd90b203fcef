/-! THE AUTOMATON and the model's reading agree. -/
theorem t_go {t : Nat → Int32} {n : Nat} {s s' : Int32} (h : f_stt t n = s) (hs : s ≠ -1) (hb : f_bh s (t n) = s') : f_stt t (n + 1) = s' := by
  show (if f_stt t n = -1 then -1 else f_bh (f_stt t n) (t n)) = s'
  rw [h, if_neg hs, hb]
theorem t_stk {t : Nat → Int32} {n : Nat} (h : f_stt t n = -1) : ∀ k, f_stt t (n + k) = -1
  | 0 => h
  | k + 1 => if_pos (t_stk h k)
theorem t_bt {c : Int32} {lo hi : Nat} (h1 : nI lo ≤ c) (h2 : c ≤ nI hi) (hh : hi < 2 ^ 31) (hlo : lo < 2 ^ 31) : ∃ k, k ≤ hi - lo ∧ lo ≤ hi ∧ c = nI (lo + k) := by
  obtain ⟨k, k1, rfl⟩ := nI_upto (Int32.le_trans (nI_pos' hlo) h1) h2 hh
  have := (nI_leI (a := lo) hlo (by omega)).mp h1
  exact ⟨k - lo, by omega, by omega, congrArg nI (by omega)⟩
theorem t_dg1 {c : Int32} : f_dg c = 1 ↔ 48 ≤ c ∧ c ≤ 57 := by
  unfold f_dg
  by_cases h : 48 ≤ c ∧ c ≤ 57
  · rw [if_pos h]; exact ⟨fun _ => h, fun _ => rfl⟩
  · rw [if_neg h]; exact ⟨fun q => absurd q (by decide), fun q => (h q).elim⟩
theorem t_dig {c : Int32} (h : 48 ≤ c ∧ c ≤ 57) : ∃ k, k ≤ 9 ∧ c = nI (48 + k) := by
  obtain ⟨k, k1, -, k2⟩ := t_bt (lo := 48) (hi := 57) h.1 h.2 (by decide) (by decide)
  exact ⟨k, k1, k2⟩
theorem b0m {c : Int32} (h : 109 ≤ c ∧ c ≤ 110) : f_bh 0 c = 7 ∧ f_dg c = 0 ∧ (c = 109 ∨ c = 110) := by
  obtain ⟨k, k1, -, rfl⟩ := t_bt (lo := 109) (hi := 110) h.1 h.2 (by decide) (by decide)
  have key : ∀ k, k ≤ 1 → f_bh 0 (nI (109 + k)) = 7 ∧ f_dg (nI (109 + k)) = 0 ∧ (nI (109 + k) = 109 ∨ nI (109 + k) = 110) := by decide +kernel
  exact key k k1
theorem b0d {c : Int32} (h : 48 ≤ c ∧ c ≤ 55) : f_bh 0 c = 1 ∧ f_dg c = 1 := by
  obtain ⟨k, k1, -, rfl⟩ := t_bt (lo := 48) (hi := 55) h.1 h.2 (by decide) (by decide)
  have key : ∀ k, k ≤ 7 → f_bh 0 (nI (48 + k)) = 1 ∧ f_dg (nI (48 + k)) = 1 := by decide +kernel
  exact key k k1
theorem b0x {c : Int32} (h1 : ¬ (109 ≤ c ∧ c ≤ 110)) (h2 : ¬ (48 ≤ c ∧ c ≤ 55)) : f_bh 0 c = -1 := by
  unfold f_bh
  rw [if_pos rfl, if_neg, if_neg h2]
  rintro (rfl | rfl)
  · exact h1 (by decide)
  · exact h1 (by decide)
theorem b1x {c : Int32} (h1 : c ≠ 99) (h2 : c ≠ 119) (h3 : c ≠ 103) : f_bh 1 c = -1 := by
  unfold f_bh
  rw [if_neg (by decide), if_pos rfl, if_neg (fun q => q.elim h2 h3), if_neg h1]
theorem b2 (c : Int32) : f_bh 2 c = if f_dg c = 1 then 7 else -1 := by
  unfold f_bh
  rw [if_neg (by decide), if_neg (by decide), if_pos rfl]
theorem b3d {c : Int32} (h : 49 ≤ c ∧ c ≤ 57) : f_bh 3 c = 4 ∧ 48 ≤ c := by
  obtain ⟨k, k1, -, rfl⟩ := t_bt (lo := 49) (hi := 57) h.1 h.2 (by decide) (by decide)
  have key : ∀ k, k ≤ 8 → f_bh 3 (nI (49 + k)) = 4 ∧ 48 ≤ nI (49 + k) := by decide +kernel
  exact key k k1
theorem b3x {c : Int32} (h : ¬ (49 ≤ c ∧ c ≤ 57)) : f_bh 3 c = -1 := by
  unfold f_bh
  rw [if_neg (by decide), if_neg (by decide), if_neg (by decide), if_pos rfl, if_neg]
  rintro ⟨h1, h2⟩
  obtain ⟨k, k1, rfl⟩ := t_dig (t_dg1.mp h1)
  by_cases hk : k = 0
  · subst hk
    exact h2 rfl
  · exact h ⟨(nI_le (by omega) (by omega) : nI 49 ≤ nI (48 + k)), (nI_le (by omega) (by decide) : nI (48 + k) ≤ nI 57)⟩
theorem b4 {s : Int32} (h0 : s ≠ 0) (h1 : s ≠ 1) (h2 : s ≠ 2) (h3 : s ≠ 3) (c : Int32) : f_bh s c = if c = 59 then 0 else if f_dg c = 1 ∧ s < 7 then s + 1 else -1 := by
  unfold f_bh
  rw [if_neg h0, if_neg h1, if_neg h2, if_neg h3]
theorem b7 (c : Int32) : f_bh 7 c = if c = 59 then 0 else -1 := by
  rw [b4 (by decide) (by decide) (by decide) (by decide), if_neg (c := f_dg c = 1 ∧ (7 : Int32) < 7) (fun q => absurd q.2 (by decide))]
/-- an order may end here: a state of its end, and what comes next -/
def t_end (t : Nat → Int32) (L a : Nat) : Prop := 4 ≤ f_stt t a ∧ (a < L → f_stt t (a + 1) = if t a = 59 then 0 else -1)
def t_nb (t : Nat → Int32) (a b : Nat) : Prop := ∀ i, a ≤ i → i ≤ b → f_stt t i ≠ -1
theorem t_nb_0 {t : Nat → Int32} {a : Nat} (h : f_stt t a ≠ -1) : t_nb t a a := fun i h1 h2 => by
  have : i = a := by omega
  subst this
  exact h
theorem t_nb_s {t : Nat → Int32} {a b : Nat} (h : f_stt t a ≠ -1) (h2 : t_nb t (a + 1) b) : t_nb t a b := fun i h3 h4 => by
  by_cases e : i = a
  · subst e
    exact h
  · exact h2 i (by omega) h4
theorem t_nb_t {t : Nat → Int32} {a b c : Nat} (h : t_nb t a b) (h2 : t_nb t (b + 1) c) : t_nb t a c := fun i h3 h4 => by
  by_cases e : i ≤ b
  · exact h i h3 e
  · exact h2 i (by omega) h4
theorem t_end7 {t : Nat → Int32} {L a : Nat} (h : f_stt t a = 7) : t_end t L a := ⟨by rw [h]; decide, fun _ => t_go h (by decide) (b7 _)⟩
theorem k_at1 {t : Nat → Int32} {L a : Nat} {lo hi : Int32} (h : k_at t L a lo hi = 1) : a < L ∧ lo ≤ t a ∧ t a ≤ hi := by
  have ha := k_at_lt h
  unfold k_at at h
  rw [if_pos ha] at h
  exact ⟨ha, f_bw_1 h⟩
theorem k_at0 {t : Nat → Int32} {L a : Nat} {lo hi : Int32} (h : k_at t L a lo hi = 0) (ha : a < L) : ¬ (lo ≤ t a ∧ t a ≤ hi) := by
  unfold k_at at h
  rw [if_pos ha] at h
  intro q
  rw [f_bw1 q] at h
  exact absurd h (by decide)
theorem k_atE {t : Nat → Int32} {L a : Nat} {c : Int32} (h : k_at t L a c c = 1) : a < L ∧ t a = c := ⟨(k_at1 h).1, Int32.le_antisymm (k_at1 h).2.2 (k_at1 h).2.1⟩
theorem k_atN {t : Nat → Int32} {L a : Nat} {c : Int32} (h : ¬ k_at t L a c c = 1) (ha : a < L) : t a ≠ c := by
  intro e
  refine k_at0 ((k_at_c t L a c c).resolve_left h) ha ?_
  rw [e]
  exact ⟨Int32.le_refl _, Int32.le_refl _⟩
theorem c_sg_lt {t : Nat → Int32} {L a : Nat} (h : a < L) : c_sg t L a = t a := if_pos h
/-- where no digit stands, the digits end -/
theorem c_dn_0 {t : Nat → Int32} {L : Nat} (f a : Nat) (v : Int32) (h : f_dg (c_sg t L a) = 0) : c_dn t L f a v = (a, v) := by
  cases f with
  | zero => rfl
  | succ f => exact if_neg (by rw [h]; decide)
theorem c_sg_59 {t : Nat → Int32} {L a : Nat} (h : a < L → t a = 59) : f_dg (c_sg t L a) = 0 := by
  unfold c_sg
  split
  · rename_i h2
    rw [h h2]
    decide
  · decide
/-- j digits so far, their number -/
def t_cn (j v : Nat) : Prop := (j = 0 ∧ v = 0) ∨ (j = 1 ∧ 1 ≤ v ∧ v ≤ 9) ∨ (j = 2 ∧ 10 ≤ v ∧ v ≤ 99) ∨ (j = 3 ∧ 100 ≤ v ∧ v ≤ 999)
theorem t_num {v k : Nat} : 10 * nI v + nI (48 + k) - 48 = nI (10 * v + k) ∧ 10 * nI v + (nI (48 + k) - 48) = nI (10 * v + k) := by
  have e0 : (10 : Int32) * nI v = nI (10 * v) := nI_mul 10 v
  have e1 : nI (48 + k) - 48 = nI k := by
    have := nI_subs (a := 48 + k) (b := 48) (by omega)
    rw [Nat.add_sub_cancel_left] at this
    exact this
  constructor
  · rw [e0, nI_add]
    have := nI_subs (a := 10 * v + (48 + k)) (b := 48) (by omega)
    rw [show 10 * v + (48 + k) - 48 = 10 * v + k by omega] at this
    exact this
  · rw [e0, e1, nI_add]
theorem t_s4 : ∀ j, j ≤ 3 → nI (4 + j) ≠ 0 ∧ nI (4 + j) ≠ 1 ∧ nI (4 + j) ≠ 2 ∧ nI (4 + j) ≠ 3 ∧ nI (4 + j) ≠ -1 ∧ 4 ≤ nI (4 + j) ∧ nI (3 + j) ≠ -1 := by decide +kernel
theorem t_s3 : ∀ j, j ≤ 3 → 1 ≤ j → nI (3 + j) ≠ 0 ∧ nI (3 + j) ≠ 1 ∧ nI (3 + j) ≠ 2 ∧ nI (3 + j) ≠ 3 ∧ nI (3 + j) < 7 ∧ nI (3 + j) + 1 = nI (4 + j) := by decide +kernel
theorem t_nl {t : Nat → Int32} {L : Nat} : ∀ (f a v j : Nat), a + f = L → a < L → t_cn j v → (48 ≤ t a ∧ t a ≤ 57) → (j = 0 → 49 ≤ t a) → f_stt t a = nI (3 + j) →
    a < (k_nl t L f a (nI v)).1 ∧ (k_nl t L f a (nI v)).1 ≤ L ∧ t_nb t a (k_nl t L f a (nI v)).1 ∧ t_end t L (k_nl t L f a (nI v)).1 ∧
      (((k_nl t L f a (nI v)).1 < L → t (k_nl t L f a (nI v)).1 = 59) → c_dn t L f a (nI v) = k_nl t L f a (nI v)) := by
  intro f
  induction f with
  | zero => intro a v j h1 h2; omega
  | succ f ih =>
    intro a v j h1 h2 h3 h4 h5 h6
    have hj : j ≤ 3 := by unfold t_cn at h3; omega
    obtain ⟨k, hk, ek⟩ := t_dig h4
    obtain ⟨n1, n2⟩ := @t_num v k
    obtain ⟨u0, u1, u2, u3, u4, u5, u6⟩ := t_s4 j hj
    have hdg : f_dg (c_sg t L a) = 1 := by rw [c_sg_lt h2]; exact t_dg1.mpr h4
    have hs : f_stt t (a + 1) = nI (4 + j) := by
      refine t_go h6 u6 ?_
      by_cases j0 : j = 0
      · subst j0
        exact (b3d ⟨h5 rfl, h4.2⟩).1
      · obtain ⟨w0, w1, w2, w3, w4, w5⟩ := t_s3 j hj (by omega)
        rw [b4 w0 w1 w2 w3, if_neg, if_pos ⟨t_dg1.mpr h4, w4⟩, w5]
        intro e
        rw [e] at h4
        exact absurd h4.2 (by decide)
    have ev : 10 * nI v + t a - 48 = nI (10 * v + k) := by rw [ek]; exact n1
    have ec : ∀ f', c_dn t L (f' + 1) a (nI v) = c_dn t L f' (a + 1) (nI (10 * v + k)) := by
      intro f'
      show (if f_dg (c_sg t L a) = 1 then c_dn t L f' (a + 1) (10 * nI v + (c_sg t L a - 48)) else (a, nI v)) = _
      rw [if_pos hdg, c_sg_lt h2, ek, n2]
    by_cases hC : nI (10 * v + k) < 1000 ∧ k_at t L (a + 1) 48 57 = 1
    · have e : k_nl t L (f + 1) a (nI v) = k_nl t L f (a + 1) (nI (10 * v + k)) := by
        show (if 10 * nI v + t a - 48 < 1000 ∧ k_at t L (a + 1) 48 57 = 1 then k_nl t L f (a + 1) (10 * nI v + t a - 48) else (a + 1, 10 * nI v + t a - 48)) = _
        rw [ev, if_pos hC]
      have hlt : 10 * v + k < 1000 := by
        unfold t_cn at h3
        exact (nI_ltI (a := 10 * v + k) (b := 1000) (by omega) (by decide)).mp hC.1
      have h49 : j = 0 → 1 ≤ k := by
        intro j0
        have h7 := h5 j0
        rw [ek] at h7
        have := (nI_leI (a := 49) (b := 48 + k) (by decide) (by omega)).mp h7
        omega
      obtain ⟨a1, a2⟩ := k_at1 hC.2
      obtain ⟨r1, r2, r3, r4, r5⟩ := ih (a + 1) (10 * v + k) (j + 1) (by omega) a1 (by unfold t_cn at h3 ⊢; omega) a2 (by omega) (by rw [hs]; exact congrArg nI (by omega))
      rw [e]
      refine ⟨by omega, r2, t_nb_s (by rw [h6]; exact u6) r3, r4, fun q => ?_⟩
      rw [ec]
      exact r5 q
    · have e : k_nl t L (f + 1) a (nI v) = (a + 1, nI (10 * v + k)) := by
        show (if 10 * nI v + t a - 48 < 1000 ∧ k_at t L (a + 1) 48 57 = 1 then k_nl t L f (a + 1) (10 * nI v + t a - 48) else (a + 1, 10 * nI v + t a - 48)) = _
        rw [ev, if_neg hC]
      rw [e]
      refine ⟨by omega, by omega, t_nb_s (by rw [h6]; exact u6) (t_nb_0 (by rw [hs]; exact u4)), ⟨by rw [hs]; exact u5, fun hl => ?_⟩, fun q => ?_⟩
      · refine t_go hs u4 ?_
        by_cases j3 : j = 3
        · subst j3
          exact b7 _
        · have hlt : 10 * v + k < 1000 := by unfold t_cn at h3; omega
          have hn : ¬ k_at t L (a + 1) 48 57 = 1 := fun q => hC ⟨(nI_lt hlt (by decide) : nI (10 * v + k) < nI 1000), q⟩
          have hn2 := k_at0 ((k_at_c t L (a + 1) 48 57).resolve_left hn) hl
          rw [b4 u0 u1 u2 u3, if_neg (c := f_dg (t (a + 1)) = 1 ∧ nI (4 + j) < 7) (fun q => hn2 (t_dg1.mp q.1))]
      · rw [ec]
        exact c_dn_0 _ _ _ (c_sg_59 q)
/-- what the class reads at a, where an order ends at b: k, d, g -/
def t_red (t : Nat → Int32) (L a b : Nat) (k d g : Int32) : Prop := (c_n t L a).1 = b ∧ c_sg t L (c_a1 t L a) = k ∧ ((k = 109 ∨ k = 110) ∨ ((k = 119 ∨ k = 99 ∨ k = 103) ∧ c_d t L a = d ∧ (c_n t L a).2 = g))
theorem t_or {M : m_Mem} {L b a : Nat} (ha : a ≤ L) (h8 : M 15 0 0 8 = nI a) (h0 : f_stt (M 20 0 0) a = 0) :
    ∃ a', (k_or M L b a).2 15 0 0 8 = nI a' ∧ a ≤ a' ∧ a' ≤ L ∧ t_nb (M 20 0 0) a a' ∧
      (((k_or M L b a).1 = 1 ∧ a < a' ∧ t_end (M 20 0 0) L a' ∧ ((a' < L → M 20 0 0 a' = 59) → t_red (M 20 0 0) L a a' ((k_or M L b a).2 21 0 0 b) ((k_or M L b a).2 21 0 0 (b + 1)) ((k_or M L b a).2 21 0 0 (b + 2)))) ∨
        ((k_or M L b a).1 = 0 ∧ f_stt (M 20 0 0) a' < 4 ∧ (a' < L → f_stt (M 20 0 0) (a' + 1) = -1))) ∧
      ∀ i, i < b → (k_or M L b a).2 21 0 0 i = M 21 0 0 i := by
  have nb0 : t_nb (M 20 0 0) a a := t_nb_0 (by rw [h0]; decide)
  unfold k_or
  by_cases c1 : k_at (M 20 0 0) L a 109 110 = 1
  · rw [if_pos c1]
    obtain ⟨d1, d2⟩ := k_at1 c1
    obtain ⟨z1, z2, z3⟩ := b0m d2
    have s1 : f_stt (M 20 0 0) (a + 1) = 7 := t_go h0 (by decide) z1
    refine ⟨a + 1, ?_, by omega, by omega, t_nb_s (by rw [h0]; decide) (t_nb_0 (by rw [s1]; decide)), Or.inl ⟨rfl, by omega, t_end7 s1, fun q => ?_⟩, fun i hi => ?_⟩
    · simp (disch := omega) only [m_set_n, m_set_i]
    · simp (disch := omega) only [m_set_n, m_set_i]
      have ea : c_a1 (M 20 0 0) L a = a := if_neg (by rw [c_sg_lt d1, z2]; decide)
      unfold t_red c_n
      rw [ea, c_sg_lt d1, c_dn_0 _ _ _ (c_sg_59 q)]
      exact ⟨rfl, rfl, Or.inl z3⟩
    · simp (disch := omega) only [m_set_n, m_set_i]
  · rw [if_neg c1]
    have c1n := (k_at_c (M 20 0 0) L a 109 110).resolve_left c1
    by_cases c2 : k_at (M 20 0 0) L a 48 55 = 0
    · rw [if_pos c2]
      refine ⟨a, h8, Nat.le_refl _, ha, nb0, Or.inr ⟨rfl, by rw [h0]; decide, fun hl => ?_⟩, fun i hi => rfl⟩
      exact t_go h0 (by decide) (b0x (k_at0 c1n hl) (k_at0 c2 hl))
    · rw [if_neg c2]
      obtain ⟨d1, d2⟩ := k_at1 ((k_at_c (M 20 0 0) L a 48 55).resolve_right c2)
      obtain ⟨z1, z2⟩ := b0d d2
      have s1 : f_stt (M 20 0 0) (a + 1) = 1 := t_go h0 (by decide) z1
      have nb1 : t_nb (M 20 0 0) a (a + 1) := t_nb_s (by rw [h0]; decide) (t_nb_0 (by rw [s1]; decide))
      have ea : c_a1 (M 20 0 0) L a = a + 1 := if_pos (by rw [c_sg_lt d1]; exact z2)
      have ed : c_d (M 20 0 0) L a = M 20 0 0 a - 48 := by
        unfold c_d
        rw [c_sg_lt d1, if_pos z2]
      by_cases c3 : k_at (M 20 0 0) L (a + 1) 99 99 = 1
      · rw [if_pos c3]
        obtain ⟨f1, f2⟩ := k_atE c3
        have s2 : f_stt (M 20 0 0) (a + 1 + 1) = 2 := t_go s1 (by decide) (by rw [f2]; decide)
        have nb2 : t_nb (M 20 0 0) a (a + 1 + 1) := t_nb_t nb1 (t_nb_0 (by rw [s2]; decide))
        by_cases c4 : k_at (M 20 0 0) L (a + 1 + 1) 48 57 = 1
        · obtain ⟨g1, g2⟩ := k_at1 c4
          have g3 := t_dg1.mpr g2
          have s3 : f_stt (M 20 0 0) (a + 1 + 1 + 1) = 7 := t_go s2 (by decide) (by rw [b2, if_pos g3])
          rw [if_pos c4, if_pos c4]
          refine ⟨a + 1 + 1 + 1, ?_, by omega, by omega, t_nb_t nb2 (t_nb_0 (by rw [s3]; decide)), Or.inl ⟨c4, by omega, t_end7 s3, fun q => ?_⟩, fun i hi => ?_⟩
          · simp (disch := omega) only [m_set_n, m_set_i, nI_1]
          · simp (disch := omega) only [k_o2, k_o1, m_set_n, m_set_i]
            unfold t_red
            rw [ed]
            unfold c_n
            rw [ea, c_sg_lt f1, show L - (a + 1 + 1) = (L - (a + 1 + 1 + 1)) + 1 by omega]
            show (if f_dg (c_sg (M 20 0 0) L (a + 1 + 1)) = 1 then c_dn (M 20 0 0) L (L - (a + 1 + 1 + 1)) (a + 1 + 1 + 1) (10 * 0 + (c_sg (M 20 0 0) L (a + 1 + 1) - 48)) else (a + 1 + 1, 0)).1 = _ ∧ _ ∧ (_ ∨ (_ ∧ _ ∧ (if f_dg (c_sg (M 20 0 0) L (a + 1 + 1)) = 1 then c_dn (M 20 0 0) L (L - (a + 1 + 1 + 1)) (a + 1 + 1 + 1) (10 * 0 + (c_sg (M 20 0 0) L (a + 1 + 1) - 48)) else (a + 1 + 1, 0)).2 = _))
            rw [c_sg_lt g1, if_pos g3, c_dn_0 _ _ _ (c_sg_59 q)]
            refine ⟨rfl, rfl, Or.inr ⟨Or.inr (Or.inl f2), rfl, ?_⟩⟩
            show 10 * 0 + (M 20 0 0 (a + 1 + 1) - 48) = M 20 0 0 (a + 1 + 1) - 48
            rw [show (10 : Int32) * 0 = 0 from by decide, Int32.zero_add]
          · simp (disch := omega) only [k_o2, k_o1, m_set_n, m_set_i]
        · have c4n := (k_at_c (M 20 0 0) L (a + 1 + 1) 48 57).resolve_left c4
          rw [if_neg c4, if_neg c4]
          refine ⟨a + 1 + 1, ?_, by omega, by omega, nb2, Or.inr ⟨c4n, by rw [s2]; decide, fun hl => ?_⟩, fun i hi => ?_⟩
          · simp (disch := omega) only [m_set_n, m_set_i, Int32.add_zero]
          · refine t_go s2 (by decide) ?_
            rw [b2, if_neg (fun q => k_at0 c4n hl (t_dg1.mp q))]
          · simp (disch := omega) only [k_o2, k_o1, m_set_n, m_set_i]
      · rw [if_neg c3]
        by_cases c5 : k_at (M 20 0 0) L (a + 1) 119 119 = 1 ∨ k_at (M 20 0 0) L (a + 1) 103 103 = 1
        · rw [if_pos c5]
          have f12 : a + 1 < L ∧ (M 20 0 0 (a + 1) = 119 ∨ M 20 0 0 (a + 1) = 103) := by
            rcases c5 with h | h
            · exact ⟨(k_atE h).1, Or.inl (k_atE h).2⟩
            · exact ⟨(k_atE h).1, Or.inr (k_atE h).2⟩
          obtain ⟨f1, f2⟩ := f12
          have s2 : f_stt (M 20 0 0) (a + 1 + 1) = 3 := t_go s1 (by decide) (by rcases f2 with h | h <;> rw [h] <;> decide)
          have nb2 : t_nb (M 20 0 0) a (a + 1 + 1) := t_nb_t nb1 (t_nb_0 (by rw [s2]; decide))
          unfold k_nu
          by_cases c6 : k_at (M 20 0 0) L (a + 1 + 1) 49 57 = 1
          · obtain ⟨g1, g2⟩ := k_at1 c6
            have g3 := (b3d g2).2
            obtain ⟨r1, r2, r3, r4, r5⟩ := t_nl (t := M 20 0 0) (L := L) (L - (a + 1 + 1)) (a + 1 + 1) 0 0 (by omega) g1 (Or.inl ⟨rfl, rfl⟩) ⟨g3, g2.2⟩ (fun _ => g2.1) s2
            rw [if_pos c6]
            have z0 : nI 0 = 0 := rfl
            rw [z0] at r1 r2 r3 r4 r5
            refine ⟨(k_nl (M 20 0 0) L (L - (a + 1 + 1)) (a + 1 + 1) 0).1, ?_, by omega, r2, t_nb_t nb1 r3, Or.inl ⟨c6, by omega, r4, fun q => ?_⟩, fun i hi => ?_⟩
            · simp (disch := omega) only [m_set_n, m_set_i]
            · simp (disch := omega) only [k_o2, k_o1, m_set_n, m_set_i]
              unfold t_red
              rw [ed]
              unfold c_n
              rw [ea, c_sg_lt f1, r5 q]
              refine ⟨rfl, rfl, Or.inr ⟨?_, rfl, rfl⟩⟩
              rcases f2 with h | h
              · exact Or.inl h
              · exact Or.inr (Or.inr h)
            · simp (disch := omega) only [k_o2, k_o1, m_set_n, m_set_i]
          · have c6n := (k_at_c (M 20 0 0) L (a + 1 + 1) 49 57).resolve_left c6
            rw [if_neg c6]
            refine ⟨a + 1 + 1, ?_, by omega, by omega, nb2, Or.inr ⟨c6n, by rw [s2]; decide, fun hl => ?_⟩, fun i hi => ?_⟩
            · simp (disch := omega) only [m_set_n, m_set_i]
            · exact t_go s2 (by decide) (b3x (k_at0 c6n hl))
            · simp (disch := omega) only [k_o2, k_o1, m_set_n, m_set_i]
        · rw [if_neg c5]
          refine ⟨a + 1, ?_, by omega, by omega, nb1, Or.inr ⟨rfl, by rw [s1]; decide, fun hl => ?_⟩, fun i hi => ?_⟩
          · simp (disch := omega) only [k_o1, m_set_n, m_set_i]
          · exact t_go s1 (by decide) (b1x (k_atN c3 hl) (k_atN (fun q => c5 (Or.inl q)) hl) (k_atN (fun q => c5 (Or.inr q)) hl))
          · simp (disch := omega) only [k_o1, m_set_n, m_set_i]
