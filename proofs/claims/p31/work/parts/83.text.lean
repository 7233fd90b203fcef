/-! A DAY IS TYPED: signs, numbers, orders; how the class reads them. -/
def y_ap (M : m_Mem) (a : Nat) (v : Int32) : m_Mem := m_set (m_set M 6 0 0 a v) 5 0 0 1 (nI (a + 1))
theorem t_cg {t u : Nat → Int32} {L : Nat} (h : ∀ i, i < L → t i = u i) : ∀ n, n ≤ L → f_stt t n = f_stt u n
  | 0, _ => rfl
  | n + 1, hn => by
    show (if f_stt t n = -1 then -1 else f_bh (f_stt t n) (t n)) = if f_stt u n = -1 then -1 else f_bh (f_stt u n) (u n)
    rw [t_cg h n (by omega), h n (by omega)]
/-- the digits of m stand from a to e -/
def y_dgs (t : Nat → Int32) (a e m : Nat) : Prop :=
  (e = a + 1 ∧ m < 10 ∧ t a = nI (48 + m)) ∨
  (e = a + 2 ∧ 10 ≤ m ∧ m < 100 ∧ t a = nI (48 + m / 10) ∧ t (a + 1) = nI (48 + m % 10)) ∨
  (e = a + 3 ∧ 100 ≤ m ∧ m < 1000 ∧ t a = nI (48 + m / 100) ∧ t (a + 1) = nI (48 + m / 10 % 10) ∧ t (a + 2) = nI (48 + m % 10)) ∨
  (e = a + 4 ∧ 1000 ≤ m ∧ m < 10000 ∧ t a = nI (48 + m / 1000) ∧ t (a + 1) = nI (48 + m / 100 % 10) ∧ t (a + 2) = nI (48 + m / 10 % 10) ∧ t (a + 3) = nI (48 + m % 10))
theorem y_dgs_cg {t u : Nat → Int32} {a e m : Nat} (h : ∀ i, i < e → u i = t i) (q : y_dgs t a e m) : y_dgs u a e m := by
  rcases q with ⟨rfl, h1, h2⟩ | ⟨rfl, h1, h2, h3, h4⟩ | ⟨rfl, h1, h2, h3, h4, h5⟩ | ⟨rfl, h1, h2, h3, h4, h5, h6⟩
  · exact Or.inl ⟨rfl, h1, by rw [h _ (by omega)]; exact h2⟩
  · exact Or.inr (Or.inl ⟨rfl, h1, h2, by rw [h _ (by omega)]; exact h3, by rw [h _ (by omega)]; exact h4⟩)
  · exact Or.inr (Or.inr (Or.inl ⟨rfl, h1, h2, by rw [h _ (by omega)]; exact h3, by rw [h _ (by omega)]; exact h4, by rw [h _ (by omega)]; exact h5⟩))
  · exact Or.inr (Or.inr (Or.inr ⟨rfl, h1, h2, by rw [h _ (by omega)]; exact h3, by rw [h _ (by omega)]; exact h4, by rw [h _ (by omega)]; exact h5, by rw [h _ (by omega)]; exact h6⟩))
theorem y_dg1 {k : Nat} (h : k ≤ 9) : f_dg (nI (48 + k)) = 1 := t_dg1.mpr ⟨nI_le (a := 48) (by omega) (by omega), nI_le (b := 57) (by omega) (by decide)⟩
theorem c_dn_s {t : Nat → Int32} {L a v k : Nat} (ha : a < L) (hk : k ≤ 9) (ht : t a = nI (48 + k)) : c_dn t L (L - a) a (nI v) = c_dn t L (L - (a + 1)) (a + 1) (nI (10 * v + k)) := by
  obtain ⟨f, hf⟩ : ∃ f, L - a = f + 1 := ⟨L - a - 1, by omega⟩
  have hf2 : L - (a + 1) = f := by omega
  rw [hf, hf2]
  show (if f_dg (c_sg t L a) = 1 then c_dn t L f (a + 1) (10 * nI v + (c_sg t L a - 48)) else (a, nI v)) = _
  rw [c_sg_lt ha, ht, if_pos (y_dg1 hk), t_num.2]
theorem y_dgs_n {t : Nat → Int32} {L a e m : Nat} (q : y_dgs t a e m) (he : e ≤ L) (h59 : e < L → t e = 59) : c_dn t L (L - a) a 0 = (e, nI m) := by
  have z0 : (0 : Int32) = nI 0 := rfl
  have fin : ∀ v, c_dn t L (L - e) e v = (e, v) := fun v => c_dn_0 _ _ _ (c_sg_59 h59)
  rw [z0]
  rcases q with ⟨rfl, h1, h2⟩ | ⟨rfl, h1, h2, h3, h4⟩ | ⟨rfl, h1, h2, h3, h4, h5⟩ | ⟨rfl, h1, h2, h3, h4, h5, h6⟩
  · rw [c_dn_s (by omega) (by omega) h2, fin]
    congr 2
    omega
  · rw [c_dn_s (by omega) (by omega) h3, c_dn_s (by omega) (by omega) h4, fin]
    congr 2
    omega
  · rw [c_dn_s (by omega) (by omega) h3, c_dn_s (by omega) (by omega) h4, c_dn_s (by omega) (by omega) h5, fin]
    congr 2
    omega
  · rw [c_dn_s (by omega) (by omega) h3, c_dn_s (by omega) (by omega) h4, c_dn_s (by omega) (by omega) h5, c_dn_s (by omega) (by omega) h6, fin]
    congr 2
    omega
/-- the order kd d g stands from a to e -/
def y_O (t : Nat → Int32) (a e kd d g : Nat) : Prop :=
  ((kd = 119 ∨ kd = 103) ∧ d < 8 ∧ 1 ≤ g ∧ t a = nI (48 + d) ∧ t (a + 1) = nI kd ∧ y_dgs t (a + 2) e g) ∨
  (kd = 99 ∧ d < 8 ∧ g < 10 ∧ t a = nI (48 + d) ∧ t (a + 1) = nI 99 ∧ e = a + 3 ∧ t (a + 2) = nI (48 + g)) ∨
  ((kd = 109 ∨ kd = 110) ∧ t a = nI kd ∧ e = a + 1)
theorem y_dgs_e {t : Nat → Int32} {a e m : Nat} (q : y_dgs t a e m) : a + 1 ≤ e ∧ e ≤ a + 4 := by
  rcases q with ⟨rfl, h1, h2⟩ | ⟨rfl, h1, h2, h3, h4⟩ | ⟨rfl, h1, h2, h3, h4, h5⟩ | ⟨rfl, h1, h2, h3, h4, h5, h6⟩ <;> omega
theorem y_O_e {t : Nat → Int32} {a e kd d g : Nat} (q : y_O t a e kd d g) : a + 1 ≤ e ∧ e ≤ a + 6 := by
  rcases q with ⟨h1, h2, h3, h4, h5, h6⟩ | ⟨h1, h2, h3, h4, h5, h6, h7⟩ | ⟨h1, h2, h3⟩
  · have := y_dgs_e h6
    omega
  · omega
  · omega
theorem y_O_cg {t u : Nat → Int32} {a e kd d g : Nat} (h : ∀ i, i < e → u i = t i) (q : y_O t a e kd d g) : y_O u a e kd d g := by
  have he := y_O_e q
  rcases q with ⟨h1, h2, h3, h4, h5, h6⟩ | ⟨h1, h2, h3, h4, h5, h6, h7⟩ | ⟨h1, h2, h3⟩
  · have := y_dgs_e h6
    exact Or.inl ⟨h1, h2, h3, by rw [h _ (by omega)]; exact h4, by rw [h _ (by omega)]; exact h5, y_dgs_cg h h6⟩
  · exact Or.inr (Or.inl ⟨h1, h2, h3, by rw [h _ (by omega)]; exact h4, by rw [h _ (by omega)]; exact h5, h6, by rw [h _ (by omega)]; exact h7⟩)
  · exact Or.inr (Or.inr ⟨h1, by rw [h _ (by omega)]; exact h2, h3⟩)
theorem y_sub48 (d : Nat) : nI (48 + d) - 48 = nI d := by
  have := nI_subs (a := 48 + d) (b := 48) (by omega)
  rw [Nat.add_sub_cancel_left] at this
  exact this
theorem y_kd {kd : Nat} (h : kd = 119 ∨ kd = 103 ∨ kd = 99 ∨ kd = 109 ∨ kd = 110) : f_dg (nI kd) = 0 := by
  rcases h with rfl | rfl | rfl | rfl | rfl <;> decide
/-- the class reads it so -/
theorem y_O_read {t : Nat → Int32} {L a e kd d g : Nat} (q : y_O t a e kd d g) (he : e ≤ L) (h59 : e < L → t e = 59) :
    c_sg t L (c_a1 t L a) = nI kd ∧ (c_n t L a).1 = e ∧ ((kd = 109 ∨ kd = 110) ∨ (c_d t L a = nI d ∧ (c_n t L a).2 = nI g)) := by
  have hee := y_O_e q
  have ha : a < L := by omega
  rcases q with ⟨h1, h2, h3, h4, h5, h6⟩ | ⟨rfl, h2, h3, h4, h5, h6, h7⟩ | ⟨h1, h2, h3⟩
  · have hd : f_dg (c_sg t L a) = 1 := by rw [c_sg_lt ha, h4]; exact y_dg1 (by omega)
    have ha1 : c_a1 t L a = a + 1 := if_pos hd
    have he2 := y_dgs_e h6
    have hn : c_n t L a = (e, nI g) := by
      unfold c_n
      rw [ha1]
      exact y_dgs_n h6 he h59
    refine ⟨?_, by rw [hn], Or.inr ⟨?_, by rw [hn]⟩⟩
    · rw [ha1, c_sg_lt (by omega), h5]
    · unfold c_d
      rw [if_pos hd, c_sg_lt ha, h4, y_sub48]
  · have hd : f_dg (c_sg t L a) = 1 := by rw [c_sg_lt ha, h4]; exact y_dg1 (by omega)
    have ha1 : c_a1 t L a = a + 1 := if_pos hd
    have hn : c_n t L a = (e, nI g) := by
      unfold c_n
      rw [ha1]
      exact y_dgs_n (Or.inl ⟨by omega, h3, h7⟩) he h59
    refine ⟨?_, by rw [hn], Or.inr ⟨?_, by rw [hn]⟩⟩
    · rw [ha1, c_sg_lt (by omega), h5]
    · unfold c_d
      rw [if_pos hd, c_sg_lt ha, h4, y_sub48]
  · have hd : f_dg (c_sg t L a) = 0 := by rw [c_sg_lt ha, h2]; exact y_kd (by omega)
    have ha1 : c_a1 t L a = a := if_neg (by rw [hd]; decide)
    have hn : (c_n t L a).1 = e := by
      unfold c_n
      rw [ha1, c_dn_0 _ _ _ (c_sg_59 (by rw [← h3]; exact h59)), h3]
    exact ⟨by rw [ha1, c_sg_lt ha, h2], hn, Or.inl h1⟩
theorem y_d9 : ∀ k, k ≤ 9 → f_dg (nI (48 + k)) = 1 ∧ ¬ nI (48 + k) = 59 ∧ (1 ≤ k → ¬ nI (48 + k) = 48) := by decide +kernel
theorem y_st4 {t : Nat → Int32} {a k j : Nat} (h : f_stt t a = nI (3 + j)) (hj : 1 ≤ j ∧ j ≤ 3) (hk : k ≤ 9) (ht : t a = nI (48 + k)) : f_stt t (a + 1) = nI (3 + (j + 1)) := by
  obtain ⟨s0, s1, s2, s3, s7, s8⟩ := t_s3 j hj.2 hj.1
  refine t_go h (t_s4 j hj.2).2.2.2.2.2.2 ?_
  obtain ⟨d1, d2, d3⟩ := y_d9 k hk
  rw [b4 s0 s1 s2 s3, ht, if_neg d2, if_pos ⟨d1, s7⟩, s8]
  congr 1
  omega
theorem y_st3 {t : Nat → Int32} {a k : Nat} (h : f_stt t a = 3) (h1 : 1 ≤ k) (hk : k ≤ 9) (ht : t a = nI (48 + k)) : f_stt t (a + 1) = nI (3 + 1) := by
  refine t_go h (by decide) ?_
  obtain ⟨d1, d2, d3⟩ := y_d9 k hk
  unfold f_bh
  rw [if_neg (by decide), if_neg (by decide), if_neg (by decide), if_pos rfl, ht, if_pos ⟨d1, d3 h1⟩]
  rfl
theorem y_dgs_f {t : Nat → Int32} {a e m : Nat} (q : y_dgs t a e m) (h1 : 1 ≤ m) (h : f_stt t a = 3) : ∃ j, 1 ≤ j ∧ j ≤ 4 ∧ f_stt t e = nI (3 + j) := by
  rcases q with ⟨rfl, q1, q2⟩ | ⟨rfl, q1, q2, q3, q4⟩ | ⟨rfl, q1, q2, q3, q4, q5⟩ | ⟨rfl, q1, q2, q3, q4, q5, q6⟩
  · exact ⟨1, by omega, by omega, y_st3 h h1 (by omega) q2⟩
  · exact ⟨2, by omega, by omega, y_st4 (y_st3 h (by omega) (by omega) q3) (by omega) (by omega) q4⟩
  · exact ⟨3, by omega, by omega, y_st4 (y_st4 (y_st3 h (by omega) (by omega) q3) (by omega) (by omega) q4) (by omega) (by omega) q5⟩
  · exact ⟨4, by omega, by omega, y_st4 (y_st4 (y_st4 (y_st3 h (by omega) (by omega) q3) (by omega) (by omega) q4) (by omega) (by omega) q5) (by omega) (by omega) q6⟩
theorem y_fin4 : ∀ j, j ≤ 4 → 1 ≤ j → 4 ≤ nI (3 + j) ∧ nI (3 + j) ≠ -1 ∧ f_bh (nI (3 + j)) 59 = 0 := by decide +kernel
/-- where an order ends, a day may end, or ';' stands -/
theorem y_O_f {t : Nat → Int32} {a e kd d g : Nat} (q : y_O t a e kd d g) (h : f_stt t a = 0) : 4 ≤ f_stt t e ∧ (t e = 59 → f_stt t (e + 1) = 0) := by
  have key : ∃ j, 1 ≤ j ∧ j ≤ 4 ∧ f_stt t e = nI (3 + j) := by
    rcases q with ⟨h1, h2, h3, h4, h5, h6⟩ | ⟨rfl, h2, h3, h4, h5, rfl, h7⟩ | ⟨h1, h2, rfl⟩
    · have s1 : f_stt t (a + 1) = 1 := t_go h (by decide) (by rw [h4]; exact (b0d ⟨nI_le (a := 48) (by omega) (by omega), nI_le (b := 55) (by omega) (by decide)⟩).1)
      have s2 : f_stt t (a + 2) = 3 := t_go s1 (by decide) (by rw [h5]; rcases h1 with rfl | rfl <;> decide)
      exact y_dgs_f h6 h3 s2
    · have s1 : f_stt t (a + 1) = 1 := t_go h (by decide) (by rw [h4]; exact (b0d ⟨nI_le (a := 48) (by omega) (by omega), nI_le (b := 55) (by omega) (by decide)⟩).1)
      have s2 : f_stt t (a + 2) = 2 := t_go s1 (by decide) (by rw [h5]; decide)
      refine ⟨4, by omega, by omega, t_go s2 (by decide) ?_⟩
      rw [b2, h7, if_pos (y_dg1 (by omega))]
      rfl
    · refine ⟨4, by omega, by omega, t_go h (by decide) ?_⟩
      rw [h2]
      rcases h1 with rfl | rfl <;> decide
  obtain ⟨j, j1, j2, j3⟩ := key
  obtain ⟨f1, f2, f3⟩ := y_fin4 j j2 j1
  rw [j3]
  exact ⟨f1, fun z => t_go j3 f2 (by rw [z]; exact f3)⟩
section TYPE
variable {M : m_Mem}
theorem l_append (a : Nat) (ha : a < 60) (hl : M 5 0 0 1 = nI a) (v : Nat) (hv : 33 ≤ v ∧ v ≤ 126) : m_cl 93 [.ref (m_lc 1 0 0), .int (nI v)] M = some (.inl (some (.int (nI (a + 1)))), y_ap M a (nI v)) := by
  have e := a_append (M := M) a (by omega) hl (nI v)
  have hb : f_bw (nI v) 33 126 = 1 := y_bw (l := 33) (u := 126) hv.1 hv.2 (by decide)
  rw [if_neg (by rw [hb]; decide), if_pos ha] at e
  exact u_append _ e
theorem y_ap_1 {a : Nat} {v : Int32} : y_ap M a v 5 0 0 1 = nI (a + 1) := m_set_i
theorem y_ap_i {a : Nat} {v : Int32} : y_ap M a v 6 0 0 a = v := by
  unfold y_ap
  rw [m_set_n (by omega), m_set_i]
theorem y_ap_t {a i : Nat} {v : Int32} (h : i ≠ a) : y_ap M a v 6 0 0 i = M 6 0 0 i := by
  unfold y_ap
  rw [m_set_n (by omega), m_set_n (by omega)]
theorem y_ap_o {a : Nat} {v : Int32} {x b c k : Nat} (h : x ≠ 6) (h2 : ¬ (x = 5 ∧ k = 1)) : y_ap M a v x b c k = M x b c k := by
  unfold y_ap
  rw [m_set_n (by omega), m_set_n (by omega)]
/-- M' is M with a text that goes on to e -/
def y_G (M M' : m_Mem) (a e : Nat) : Prop := M' 5 0 0 1 = nI e ∧ a ≤ e ∧ e ≤ 60 ∧ (∀ i, i < a → M' 6 0 0 i = M 6 0 0 i) ∧ (∀ x b c k, x ≠ 6 → ¬ (x = 5 ∧ k = 1) → M' x b c k = M x b c k) ∧ ((∀ i, i < 60 → m_nok 2 (M 6 0 0 i) = true) → ∀ i, i < 60 → m_nok 2 (M' 6 0 0 i) = true)
theorem y_G0 {a : Nat} (h : M 5 0 0 1 = nI a) (ha : a ≤ 60) : y_G M M a a := ⟨h, Nat.le_refl _, ha, fun _ _ => rfl, fun _ _ _ _ _ _ => rfl, fun h => h⟩
theorem y_G1 {M' : m_Mem} {a e v : Nat} (h : y_G M M' a e) (he : e < 60) (hv : 33 ≤ v ∧ v ≤ 126) : y_G M (y_ap M' e (nI v)) a (e + 1) := by
  obtain ⟨h1, h2, h3, h4, h5, h6⟩ := h
  refine ⟨y_ap_1, by omega, by omega, fun i hi => ?_, fun x b c k q1 q2 => ?_, fun q i hi => ?_⟩
  · rw [y_ap_t (by omega)]
    exact h4 i hi
  · rw [y_ap_o q1 q2]
    exact h5 _ _ _ _ q1 q2
  · by_cases z : i = e
    · subst z
      rw [y_ap_i]
      exact (m_nc_of (v := nI v) ⟨nI_le (a := 33) hv.1 (by omega), nI_le (b := 126) hv.2 (by decide)⟩).2.2
    · rw [y_ap_t z]
      exact h6 q i hi
theorem y_G_t {M' M'' : m_Mem} {a e b : Nat} (h : y_G M M' a e) (h2 : y_G M' M'' e b) : y_G M M'' a b := by
  obtain ⟨a1, a2, a3, a4, a5, a6⟩ := h
  obtain ⟨b1, b2, b3, b4, b5, b6⟩ := h2
  exact ⟨b1, by omega, b3, fun i hi => by rw [b4 i (by omega)]; exact a4 i hi, fun x b c k q1 q2 => by rw [b5 _ _ _ _ q1 q2]; exact a5 _ _ _ _ q1 q2, fun q => b6 (a6 q)⟩
/-- one place of a number -/
theorem l_ty1 (u m : Nat) (hu : u = 1 ∨ u = 10 ∨ u = 100 ∨ u = 1000) (hm : m < 10000) (b : Nat) (hb : b = 0 ∨ b = 1) (a : Nat) (ha : a < 60) (hl : M 5 0 0 1 = nI a) (v1 v2 : Int32) :
    m_E 109 50 [some (.ref (m_lc 1 0 0)), some (.int v1), some (.int v2), some (.int (nI m)), some (.int 1), some (.int (nI b)), some (.int (nI u))] [] M =
    if b = 1 ∨ u ≤ m ∨ (u = 1 ∧ m = 0) then m_E 109 50 [some (.ref (m_lc 1 0 0)), some (.int v1), some (.int v2), some (.int (nI m)), some (.int 1), some (.int (nI 1)), some (.int (nI (u / 10)))] [] (y_ap M a (nI (48 + m / u % 10)))
    else m_E 109 50 [some (.ref (m_lc 1 0 0)), some (.int v1), some (.int v2), some (.int (nI m)), some (.int 1), some (.int (nI 0)), some (.int (nI (u / 10)))] [] M := by
  have hu0 : 0 < u := by omega
  have u0 : ¬ nI u ≤ 0 := nI_nle hu0 (by omega)
  have une := nI_ne0 hu0 (show u < 2 ^ 31 by omega)
  have q10 : nI u / 10 = nI (u / 10) := nI_quo (b := 10) (by omega) (by decide) (by decide)
  have qu : nI m / nI u = nI (m / u) := nI_quo (by omega) (by omega) hu0
  have hmu : m / u < 10000 := Nat.lt_of_le_of_lt (Nat.div_le_self m u) hm
  have r10 : nI (m / u) - nI (m / u) / 10 * 10 = nI (m / u % 10) := nI_remd (b := 10) (by omega) (by decide) (by decide)
  have e48 : (48 : Int32) + nI (m / u % 10) = nI (48 + m / u % 10) := nI_add 48 _
  have la := l_append a ha hl (48 + m / u % 10) (by omega)
  have l0 : ¬ nI (a + 1) ≤ 0 := nI_nle (by omega) (by omega)
  have tl : ∀ M', m_E 109 111 [some (.ref (m_lc 1 0 0)), some (.int v1), some (.int v2), some (.int (nI m)), some (.int 1), some (.int (nI 1)), some (.int (nI u))] [.int 1] M' = m_E 109 50 [some (.ref (m_lc 1 0 0)), some (.int v1), some (.int v2), some (.int (nI m)), some (.int 1), some (.int (nI 1)), some (.int (nI (u / 10)))] [] M' := by
    intro M'
    simp only [eL_types_111, eL_types_114, eL_types_115, eL_types_117, eL_types_119, eL_types_121, eL_types_122, eL_types_124, q10, m_kill, (by decide : ¬ (10 : Int32) = 0), not_false_eq_true]
  have yes : m_E 109 76 [some (.ref (m_lc 1 0 0)), some (.int v1), some (.int v2), some (.int (nI m)), some (.int 1), some (.int (nI b)), some (.int (nI u))] [] M = m_E 109 50 [some (.ref (m_lc 1 0 0)), some (.int v1), some (.int v2), some (.int (nI m)), some (.int 1), some (.int (nI 1)), some (.int (nI (u / 10)))] [] (y_ap M a (nI (48 + m / u % 10))) := by
    simp only [eL_types_76, eL_types_77, eL_types_80, eL_types_81, eL_types_83, eL_types_85, eL_types_88, eL_types_90, m_kill, (by decide : ¬ (1 : Int32) = 0), if_false]
    simp only [eL_types_93, eL_types_94, eL_types_96, eL_types_97, eL_types_99, eL_types_100, eL_types_102, eL_types_103, eL_types_104, eL_types_107, eL_types_110, une, qu, r10, e48, la, l0, m_cE_i, (by decide : ¬ (10 : Int32) = 0), not_false_eq_true, if_false]
    exact tl _
  rw [eL_types_50]
  rcases hb with rfl | rfl
  · by_cases h1 : u ≤ m
    · have h2 : nI u ≤ nI m := nI_le h1 (by omega)
      rw [if_pos (Or.inr (Or.inl h1))]
      simp only [eL_types_52, eL_types_55, eL_types_57, eL_types_60, eL_types_61, eL_types_63, u0, h2, (by decide : nI 0 = 0), if_true, if_false]
      exact yes
    · have h2 : ¬ nI u ≤ nI m := nI_ge (by omega) (by omega)
      by_cases h3 : u = 1 ∧ m = 0
      · obtain ⟨rfl, rfl⟩ := h3
        rw [if_pos (Or.inr (Or.inr ⟨rfl, rfl⟩))]
        simp only [eL_types_52, eL_types_55, eL_types_57, eL_types_60, eL_types_61, eL_types_63, u0, h2, (by decide : nI 0 = 0), if_true, if_false]
        simp only [eL_types_66, eL_types_68, eL_types_69, eL_types_72, eL_types_73, (by decide : nI 1 = 1), (by decide : nI 0 = 0), if_true]
        exact yes
      · rw [if_neg (fun q => q.elim (fun z => absurd z (by decide)) (fun z => z.elim h1 h3))]
        have h4 : ¬ nI u = 1 := fun q => by
          have := (nI_eq (b := 1) (by omega) (by decide)).mp q
          exact h3 ⟨this, by omega⟩
        simp only [eL_types_52, eL_types_55, eL_types_57, eL_types_60, eL_types_61, eL_types_63, u0, h2, (by decide : nI 0 = 0), if_true, if_false]
        simp only [eL_types_66, eL_types_68, eL_types_69, h4, if_false]
        simp only [eL_types_80, eL_types_81, eL_types_83, eL_types_85, eL_types_88, eL_types_90, m_kill, (by decide : ¬ (1 : Int32) = 0), if_true, if_false]
        simp only [eL_types_110, eL_types_111, eL_types_114, eL_types_115, eL_types_117, eL_types_119, eL_types_121, eL_types_122, eL_types_124, q10, m_kill, (by decide : ¬ (10 : Int32) = 0), not_false_eq_true]
  · rw [if_pos (Or.inl rfl)]
    simp only [eL_types_52, eL_types_55, eL_types_57, u0, (by decide : nI 1 = 1), (by decide : ¬ (1 : Int32) = 0), if_false]
    exact yes
theorem l_types (d letter m : Nat) (hd : d < 8) (hl : 33 ≤ letter ∧ letter ≤ 126) (hm : m < 10000) (a : Nat) (ha : a + 6 ≤ 60) (h5 : M 5 0 0 1 = nI a) :
    ∃ e M', m_cl 109 [.ref (m_lc 1 0 0), .int (nI d), .int (nI letter), .int (nI m)] M = some (.inl (some (.int 1)), M') ∧ y_G M M' a e ∧ a + 3 ≤ e ∧ e ≤ a + 6 ∧ M' 6 0 0 a = nI (48 + d) ∧ M' 6 0 0 (a + 1) = nI letter ∧ y_dgs (M' 6 0 0) (a + 2) e m := by
  have d0 : ¬ nI d < 0 := nI_pos (by omega)
  have e48 : (48 : Int32) + nI d = nI (48 + d) := nI_add 48 d
  have l1 := l_append (M := M) a (by omega) h5 (48 + d) (by omega)
  have l2 := l_append (M := y_ap M a (nI (48 + d))) (a + 1) (by omega) y_ap_1 letter hl
  have n1 : ¬ nI (a + 1) ≤ 0 := nI_nle (by omega) (by omega)
  have n2 : ¬ nI (a + 1 + 1) ≤ 0 := nI_nle (by omega) (by omega)
  have hG := y_G1 (y_G1 (y_G0 h5 (by omega)) (by omega) (v := 48 + d) (by omega)) (by omega) hl
  have t0 : y_ap (y_ap M a (nI (48 + d))) (a + 1) (nI letter) 6 0 0 a = nI (48 + d) := by rw [y_ap_t (by omega), y_ap_i]
  have t1 : y_ap (y_ap M a (nI (48 + d))) (a + 1) (nI letter) 6 0 0 (a + 1) = nI letter := y_ap_i
  have z50 : y_ap (y_ap M a (nI (48 + d))) (a + 1) (nI letter) 5 0 0 1 = nI (a + 2) := y_ap_1
  rw [eL_types_en]
  simp only [eL_types_0, eL_types_1, eL_types_4, eL_types_5, eL_types_7, eL_types_8, eL_types_9, eL_types_12, eL_types_15, eL_types_16, eL_types_19, eL_types_20, d0, e48, l1, n1, m_cE_i, m_kill, if_false]
  simp only [eL_types_22, eL_types_24, eL_types_27, eL_types_28, eL_types_29, eL_types_32, eL_types_35, eL_types_36, eL_types_39, eL_types_40, eL_types_42, eL_types_43, eL_types_45, eL_types_48, l2, n2, m_cE_i, m_kill, (by decide : ¬ (1 : Int32) = 0), if_false]
  generalize y_ap (y_ap M a (nI (48 + d))) (a + 1) (nI letter) = Q at hG t0 t1 z50 ⊢
  have fin : ∀ (M' : m_Mem) (v5 : Int32), m_E 109 50 [some (.ref (m_lc 1 0 0)), some (.int (nI d)), some (.int (nI letter)), some (.int (nI m)), some (.int 1), some (.int v5), some (.int (nI (1 / 10)))] [] M' = some (.inl (some (.int 1)), M') := by
    intro M' v5
    simp only [eL_types_50, eL_types_52, (by decide : nI (1 / 10) ≤ 0), if_true]
    simp only [eL_types_127, eL_types_129, m_nok11]
  have S := fun (Q : m_Mem) (u b a : Nat) hu hb ha hl => l_ty1 (M := Q) u m hu hm b hb a ha hl (nI d) (nI letter)
  by_cases c1 : m < 10
  · refine ⟨a + 3, y_ap Q (a + 2) (nI (48 + m / 1 % 10)), ?_, y_G1 hG (by omega) (by omega), by omega, by omega, ?_, ?_, Or.inl ⟨by omega, c1, ?_⟩⟩
    · have s1 := S Q 1000 0 (a + 2) (by omega) (by omega) (by omega) z50
      rw [if_neg (by omega)] at s1
      have s2 := S Q 100 0 (a + 2) (by omega) (by omega) (by omega) z50
      rw [if_neg (by omega)] at s2
      have s3 := S Q 10 0 (a + 2) (by omega) (by omega) (by omega) z50
      rw [if_neg (by omega)] at s3
      have s4 := S Q 1 0 (a + 2) (by omega) (by omega) (by omega) z50
      rw [if_pos (by omega)] at s4
      exact s1.trans (s2.trans (s3.trans (s4.trans (fin _ _))))
    · rw [y_ap_t (by omega)]; exact t0
    · rw [y_ap_t (by omega)]; exact t1
    · rw [y_ap_i]
      congr 1
      omega
  · by_cases c2 : m < 100
    · refine ⟨a + 4, y_ap (y_ap Q (a + 2) (nI (48 + m / 10 % 10))) (a + 3) (nI (48 + m / 1 % 10)), ?_, y_G1 (y_G1 hG (by omega) (by omega)) (by omega) (by omega), by omega, by omega, ?_, ?_, Or.inr (Or.inl ⟨by omega, by omega, c2, ?_, ?_⟩)⟩
      · have s1 := S Q 1000 0 (a + 2) (by omega) (by omega) (by omega) z50
        rw [if_neg (by omega)] at s1
        have s2 := S Q 100 0 (a + 2) (by omega) (by omega) (by omega) z50
        rw [if_neg (by omega)] at s2
        have s3 := S Q 10 0 (a + 2) (by omega) (by omega) (by omega) z50
        rw [if_pos (by omega)] at s3
        have s4 := S (y_ap Q (a + 2) (nI (48 + m / 10 % 10))) 1 1 (a + 3) (by omega) (by omega) (by omega) y_ap_1
        rw [if_pos (by omega)] at s4
        exact s1.trans (s2.trans (s3.trans (s4.trans (fin _ _))))
      · rw [y_ap_t (by omega), y_ap_t (by omega)]; exact t0
      · rw [y_ap_t (by omega), y_ap_t (by omega)]; exact t1
      · rw [y_ap_t (by omega), y_ap_i]
        congr 1
        omega
      · rw [y_ap_i]
        congr 1
        omega
    · by_cases c3 : m < 1000
      · refine ⟨a + 5, y_ap (y_ap (y_ap Q (a + 2) (nI (48 + m / 100 % 10))) (a + 3) (nI (48 + m / 10 % 10))) (a + 4) (nI (48 + m / 1 % 10)), ?_, y_G1 (y_G1 (y_G1 hG (by omega) (by omega)) (by omega) (by omega)) (by omega) (by omega), by omega, by omega, ?_, ?_, Or.inr (Or.inr (Or.inl ⟨by omega, by omega, c3, ?_, ?_, ?_⟩))⟩
        · have s1 := S Q 1000 0 (a + 2) (by omega) (by omega) (by omega) z50
          rw [if_neg (by omega)] at s1
          have s2 := S Q 100 0 (a + 2) (by omega) (by omega) (by omega) z50
          rw [if_pos (by omega)] at s2
          have s3 := S (y_ap Q (a + 2) (nI (48 + m / 100 % 10))) 10 1 (a + 3) (by omega) (by omega) (by omega) y_ap_1
          rw [if_pos (by omega)] at s3
          have s4 := S (y_ap (y_ap Q (a + 2) (nI (48 + m / 100 % 10))) (a + 3) (nI (48 + m / 10 % 10))) 1 1 (a + 4) (by omega) (by omega) (by omega) y_ap_1
          rw [if_pos (by omega)] at s4
          exact s1.trans (s2.trans (s3.trans (s4.trans (fin _ _))))
        · rw [y_ap_t (by omega), y_ap_t (by omega), y_ap_t (by omega)]; exact t0
        · rw [y_ap_t (by omega), y_ap_t (by omega), y_ap_t (by omega)]; exact t1
        · rw [y_ap_t (by omega), y_ap_t (by omega), y_ap_i]
          congr 1
          omega
        · rw [y_ap_t (by omega), show a + 2 + 1 = a + 3 from rfl, y_ap_i]
        · rw [show a + 2 + 2 = a + 4 from rfl, y_ap_i]
          congr 1
          omega
      · refine ⟨a + 6, y_ap (y_ap (y_ap (y_ap Q (a + 2) (nI (48 + m / 1000 % 10))) (a + 3) (nI (48 + m / 100 % 10))) (a + 4) (nI (48 + m / 10 % 10))) (a + 5) (nI (48 + m / 1 % 10)), ?_, y_G1 (y_G1 (y_G1 (y_G1 hG (by omega) (by omega)) (by omega) (by omega)) (by omega) (by omega)) (by omega) (by omega), by omega, by omega, ?_, ?_, Or.inr (Or.inr (Or.inr ⟨by omega, by omega, hm, ?_, ?_, ?_, ?_⟩))⟩
        · have s1 := S Q 1000 0 (a + 2) (by omega) (by omega) (by omega) z50
          rw [if_pos (by omega)] at s1
          have s2 := S (y_ap Q (a + 2) (nI (48 + m / 1000 % 10))) 100 1 (a + 3) (by omega) (by omega) (by omega) y_ap_1
          rw [if_pos (by omega)] at s2
          have s3 := S (y_ap (y_ap Q (a + 2) (nI (48 + m / 1000 % 10))) (a + 3) (nI (48 + m / 100 % 10))) 10 1 (a + 4) (by omega) (by omega) (by omega) y_ap_1
          rw [if_pos (by omega)] at s3
          have s4 := S (y_ap (y_ap (y_ap Q (a + 2) (nI (48 + m / 1000 % 10))) (a + 3) (nI (48 + m / 100 % 10))) (a + 4) (nI (48 + m / 10 % 10))) 1 1 (a + 5) (by omega) (by omega) (by omega) y_ap_1
          rw [if_pos (by omega)] at s4
          exact s1.trans (s2.trans (s3.trans (s4.trans (fin _ _))))
        · rw [y_ap_t (by omega), y_ap_t (by omega), y_ap_t (by omega), y_ap_t (by omega)]; exact t0
        · rw [y_ap_t (by omega), y_ap_t (by omega), y_ap_t (by omega), y_ap_t (by omega)]; exact t1
        · rw [y_ap_t (by omega), y_ap_t (by omega), y_ap_t (by omega), y_ap_i]
          congr 1
          omega
        · rw [y_ap_t (by omega), y_ap_t (by omega), show a + 2 + 1 = a + 3 from rfl, y_ap_i]
        · rw [y_ap_t (by omega), show a + 2 + 2 = a + 4 from rfl, y_ap_i]
        · rw [show a + 2 + 3 = a + 5 from rfl, y_ap_i]
          congr 1
          omega
end TYPE
