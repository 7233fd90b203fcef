/-! WHAT HOLDS between the calls: the class's camp and a row K of the law's numbers; the money; saved states. -/
def y_m1 (M : m_Mem) (d : Nat) : Prop := ∃ s t q y g : Nat, (M 12 0 d 0 = nI s ∧ M 12 0 d 1 = nI t ∧ M 12 0 d 7 = nI q ∧ M 12 0 d 5 = nI y ∧ M 12 0 d 3 = nI g) ∧ t ≤ 5000 ∧ s + q = y + t ∧ y ≤ 105 * g ∧ g ≤ 1299987
def y_m (M : m_Mem) (N B : Nat) : Prop := (∀ d, d < N → y_m1 M d) ∧ f_tot M 0 4 N = f_fib M 0 B
def y_W (M K : m_Mem) (n N B : Nat) : Prop := (n ≤ 6 ∧ M 1 0 0 5 = nI n) ∧ f_Q M ∧ r_C M 0 (K 16 0 0) N B ∧ y_m M N B ∧ r_sta M
section STATE
variable {M M' K K' : m_Mem} {n N B : Nat}
theorem f_tot_cg {k : Nat} : ∀ n, (∀ d, d < n → M' 12 0 d k = M 12 0 d k) → f_tot M' 0 k n = f_tot M 0 k n
  | 0, _ => rfl
  | n + 1, h => by
    show f_tot M' 0 k n + M' 12 0 n k = f_tot M 0 k n + M 12 0 n k
    rw [f_tot_cg n (fun d hd => h d (by omega)), h n (by omega)]
theorem f_tot_up {k d : Nat} {x : Int32} (h1 : M' 12 0 d k = M 12 0 d k + x) : ∀ n, d < n → (∀ i, i < n → i ≠ d → M' 12 0 i k = M 12 0 i k) → f_tot M' 0 k n = f_tot M 0 k n + x
  | 0, hd, _ => absurd hd (Nat.not_lt_zero _)
  | n + 1, hd, h => by
    show f_tot M' 0 k n + M' 12 0 n k = f_tot M 0 k n + M 12 0 n k + x
    by_cases e : d = n
    · subst e
      rw [f_tot_cg d (fun i hi => h i (by omega) (by omega)), h1, Int32.add_assoc]
    · rw [f_tot_up h1 n (by omega) (fun i hi he => h i (by omega) he), h n (by omega) (fun q => e q.symm), Int32.add_assoc, Int32.add_comm x, ← Int32.add_assoc]
def f_fb (M : m_Mem) : Nat → Int32
  | 0 => 0
  | n + 1 => f_fb M n + M 14 0 n 1
theorem f_fib_e (M : m_Mem) : ∀ n, f_fib M 0 n = M 14 0 12 1 + f_fb M n
  | 0 => (Int32.add_zero _).symm
  | n + 1 => by
    show f_fib M 0 n + M 14 0 n 1 = M 14 0 12 1 + (f_fb M n + M 14 0 n 1)
    rw [f_fib_e M n, Int32.add_assoc]
theorem f_fb_cg : ∀ n, (∀ b, b < n → M' 14 0 b 1 = M 14 0 b 1) → f_fb M' n = f_fb M n
  | 0, _ => rfl
  | n + 1, h => by
    show f_fb M' n + M' 14 0 n 1 = f_fb M n + M 14 0 n 1
    rw [f_fb_cg n (fun d hd => h d (by omega)), h n (by omega)]
theorem y_m_cg (h : y_m M N B) (hN : N ≤ 8) (hB : B ≤ 12) (h12 : ∀ d k, d < 8 → k < 8 → k ≠ 2 → M' 12 0 d k = M 12 0 d k) (h14 : ∀ b, b < 13 → M' 14 0 b 1 = M 14 0 b 1) : y_m M' N B := by
  refine ⟨fun d hd => ?_, ?_⟩
  · obtain ⟨s, t, q, y, g, ⟨a1, a2, a3, a4, a5⟩, r⟩ := h.1 d hd
    refine ⟨s, t, q, y, g, ⟨?_, ?_, ?_, ?_, ?_⟩, r⟩
    · rw [h12 d 0 (by omega) (by decide) (by decide)]; exact a1
    · rw [h12 d 1 (by omega) (by decide) (by decide)]; exact a2
    · rw [h12 d 7 (by omega) (by decide) (by decide)]; exact a3
    · rw [h12 d 5 (by omega) (by decide) (by decide)]; exact a4
    · rw [h12 d 3 (by omega) (by decide) (by decide)]; exact a5
  · rw [f_tot_cg N (fun d hd => h12 d 4 (by omega) (by decide) (by decide)), h.2, f_fib_e, f_fib_e, h14 12 (by decide), f_fb_cg B (fun b hb => h14 b (by omega))]
/-- the same in other memories -/
theorem y_Wcg (h : y_W M K n N B) (hM : ∀ a b c k, (a < 5 ∨ 7 ≤ a) → (a < 16 ∨ a = 24 ∨ a = 25) → M' a b c k = M a b c k) (hK : ∀ i, i < 173 → K' 16 0 0 i = K 16 0 0 i) : y_W M' K' n N B := by
  obtain ⟨h1, h2, h3, h4, h5⟩ := h
  have q := f_q_cg (M := M) (M' := M') (fun i => hM 4 0 0 i (by omega) (by omega))
  refine ⟨?_, fun i hi => ?_, ?_, ?_, ?_, ?_⟩
  · rw [hM 1 0 0 5 (by omega) (by omega)]
    exact h1
  · rw [q, hM 4 0 0 i (by omega) (by omega)]
    exact h2 i hi
  · exact r_cg2 h3 (fun a c k hd => by unfold r_dm at hd; exact hM _ _ _ _ (by omega) (by omega)) hK
  · exact y_m_cg h4 h3.1.1.1 h3.1.2.1.1 (fun d k _ _ _ => hM _ _ _ _ (by omega) (by omega)) (fun b _ => hM _ _ _ _ (by omega) (by omega))
  · intro j hj
    rw [hM 24 0 0 j (by omega) (by omega)]
    exact h5.1 j hj
  · intro j hj
    rw [hM 25 0 0 j (by omega) (by omega)]
    exact h5.2 j hj
theorem y_fI (h : y_W M K n N B) : f_I M n N B := ⟨h.1, ⟨h.2.2.1.1.1.1, h.2.2.1.1.1.2.1⟩, ⟨h.2.2.1.1.2.1.1, h.2.2.1.1.2.1.2.1⟩, h.2.1, r_bool_C h.2.2.1⟩
theorem f_sv_n (hn : n ≤ 6) : f_sv M n 1 0 0 5 = nI (r_n n) ∧ r_n n ≤ 6 := by
  unfold f_sv r_n
  split
  · exact ⟨m_set_i, by omega⟩
  · exact ⟨m_set_i, Nat.le_refl _⟩
theorem f_sv_Q (h : f_Q M) : f_Q (f_sv M n) := by
  intro i hi
  unfold f_q f_sv
  split
  · rw [m_set_n (by omega), f_cm_n (by omega)]
    exact h i hi
  · have e : m_set (f_cm (m_set (f_rot M) 1 0 0 5 5) (3 + f_q M 0) 0) 1 0 0 5 6 4 0 0 i = M 4 0 0 (if i = 5 then 0 else i + 1) := by
      rw [m_set_n (by omega), f_cm_n (by omega), m_set_n (by omega)]
      exact if_pos ⟨rfl, rfl, rfl, hi⟩
    rw [e]
    exact h _ (by split <;> omega)
theorem y_sv (h : y_W M K n N B) : y_W (f_sv M n) K (r_n n) N B := by
  obtain ⟨h1, h2, h3, h4, h5⟩ := h
  obtain ⟨e1, e2⟩ := f_sv_n (M := M) h1.1
  have o : ∀ a c k, a ≠ 1 → a ≠ 4 → f_sv M n a 0 c k = M a 0 c k := fun a c k q1 q4 => f_sv_o M n a 0 c k (by decide) q4 (fun q => q1 q.1)
  refine ⟨⟨e2, e1⟩, f_sv_Q h2, ?_, ?_, ?_, ?_⟩
  · exact r_cg2 h3 (fun a c k hd => by unfold r_dm at hd; exact o _ _ _ (by omega) (by omega)) (fun _ _ => rfl)
  · exact y_m_cg h4 h3.1.1.1 h3.1.2.1.1 (fun d k _ _ _ => o _ _ _ (by decide) (by decide)) (fun b _ => o _ _ _ (by decide) (by decide))
  · intro j hj
    rw [o 24 0 j (by decide) (by decide)]
    exact h5.1 j hj
  · intro j hj
    rw [o 25 0 j (by decide) (by decide)]
    exact h5.2 j hj
/-- the camp's rows alone have changed -/
theorem y_op {N' B' : Nat} (h : y_W M K n N B) (hM : ∀ a b c k, (b ≠ 0 ∨ a < 7 ∨ 15 ≤ a) → M' a b c k = M a b c k) (hC : r_C M' 0 (K' 16 0 0) N' B') (hm : y_m M' N' B') : y_W M' K' n N' B' := by
  obtain ⟨h1, h2, h3, h4, h5⟩ := h
  have q := f_q_cg (M := M) (M' := M') (fun i => hM 4 0 0 i (by omega))
  refine ⟨?_, fun i hi => ?_, hC, hm, ?_, ?_⟩
  · rw [hM 1 0 0 5 (by omega)]
    exact h1
  · rw [q, hM 4 0 0 i (by omega)]
    exact h2 i hi
  · intro j hj
    rw [hM 24 0 0 j (by omega)]
    exact h5.1 j hj
  · intro j hj
    rw [hM 25 0 0 j (by omega)]
    exact h5.2 j hj
theorem y_take (h : y_W M K n N B) {d c : Nat} (hd : d < N) (hc : c < 10) (hf : M 13 0 c 1 = -1) : y_W (f_give (m_set M 12 0 d 2 (nI c)) 0 c (nI d)) (k_st K d c) n N B :=
  y_op h (fun a b c k h => w_take h) (o_take h.2.2.1 hd hc hf) (y_m_cg h.2.2.2.1 h.2.2.1.1.1.1 h.2.2.1.1.2.1.1 (fun d k _ _ _ => by unfold f_give; simp (disch := omega) only [m_set_n]) (fun b _ => by unfold f_give; simp (disch := omega) only [m_set_n]))
theorem y_free (h : y_W M K n N B) {d c : Nat} (hd : d < N) (hc : c < 10) (hf : M 13 0 c 1 = nI d) : y_W (f_give (m_set M 12 0 d 2 (-1)) 0 c (-1)) (k_fr K d c) n N B :=
  y_op h (fun a b c k h => w_take h) (o_free h.2.2.1 hd hc hf) (y_m_cg h.2.2.2.1 h.2.2.1.1.1.1 h.2.2.1.1.2.1.1 (fun d k _ _ _ => by unfold f_give; simp (disch := omega) only [m_set_n]) (fun b _ => by unfold f_give; simp (disch := omega) only [m_set_n]))
theorem y_vein (h : y_W M K n N B) {c : Nat} {f : Int32} (hc : c < 10) (hf : 500 ≤ f ∧ f ≤ 1000) : y_W (m_set M 13 0 c 0 f) (m_set K 16 0 0 (77 + 6 * c + 0) f) n N B :=
  y_op h (fun a b c k h => by simp (disch := omega) only [m_set_n]) (o_vein h.2.2.1 hc hf) (y_m_cg h.2.2.2.1 h.2.2.1.1.1.1 h.2.2.1.1.2.1.1 (fun d k _ _ _ => by simp (disch := omega) only [m_set_n]) (fun b _ => by simp (disch := omega) only [m_set_n]))
theorem y_adjust (h : y_W M K n N B) {v : Int32} (hv : -50 ≤ v ∧ v ≤ 50) : y_W (m_set (m_set M 7 0 0 8 v) 7 0 0 9 0) (m_set (m_set K 16 0 0 6 v) 16 0 0 7 0) n N B :=
  y_op h (fun a b c k h => by simp (disch := omega) only [m_set_n]) (o_adjust h.2.2.1 hv) (y_m_cg h.2.2.2.1 h.2.2.1.1.1.1 h.2.2.1.1.2.1.1 (fun d k _ _ _ => by simp (disch := omega) only [m_set_n]) (fun b _ => by simp (disch := omega) only [m_set_n]))
theorem y_set (h : y_W M K n N B) {t : Nat} {v : Int32} (ht : t < 5) (hv : m_s24 t ≤ v ∧ v ≤ m_s25 t) : y_W (m_set M 11 0 0 t v) (m_set K 16 0 0 (8 + t) v) n N B :=
  y_op h (fun a b c k h => by simp (disch := omega) only [m_set_n]) (o_set h.2.2.1 ht hv) (y_m_cg h.2.2.2.1 h.2.2.1.1.1.1 h.2.2.1.1.2.1.1 (fun d k _ _ _ => by simp (disch := omega) only [m_set_n]) (fun b _ => by simp (disch := omega) only [m_set_n]))
theorem w_e12 {c d k a : Nat} (h : k ≠ 2 ∧ a = 12 ∨ a = 14) : f_e1 M 0 c a 0 d k = M a 0 d k := by
  unfold f_e1
  split
  · rfl
  · split
    · unfold f_give
      simp (disch := omega) only [m_set_n]
    · simp (disch := omega) only [m_set_n]
theorem w_en12 {d k a : Nat} (h : k ≠ 2 ∧ a = 12 ∨ a = 14) : ∀ n, f_en M 0 n a 0 d k = M a 0 d k
  | 0 => rfl
  | n + 1 => (w_e12 h).trans (w_en12 h n)
theorem y_day (h : y_W M K n N B) (hd : M 7 0 0 7 + 1 ≤ 9999) : y_W (f_dy M) (k_dy K) n N B ∧ f_ln M 0 10 = k_ln K 10 := by
  obtain ⟨h1, h2⟩ := o_dy h.2.2.1 hd
  refine ⟨y_op h (fun a b c k h => w_dy h) h1 (y_m_cg h.2.2.2.1 h.2.2.1.1.1.1 h.2.2.1.1.2.1.1 (fun d k _ _ hk => ?_) (fun b _ => ?_)), h2⟩
  · unfold f_dy
    rw [m_set_n (by omega), w_en12 (Or.inl ⟨hk, rfl⟩)]
  · unfold f_dy
    rw [m_set_n (by omega), w_en12 (Or.inr rfl)]
theorem y_days (h : y_W M K n N B) {v : Nat} (hv : v ≤ 30) (hd : M 7 0 0 7 + nI v ≤ 9999) : ∀ i, i ≤ v → y_W (f_dn M i) (k_dn K i) n N B ∧ f_dl M i = k_dl K i
  | 0, _ => ⟨h, rfl⟩
  | i + 1, hi => by
    obtain ⟨h1, h2⟩ := y_days h hv hd i (by omega)
    obtain ⟨-, -, h3⟩ := o_dn h.2.2.1 hv hd i (by omega)
    have hV0 := h.2.2.1.2.2.2.2.2.1
    obtain ⟨k, k1, k2⟩ := nI_upto (N := 9999) hV0.1.1 hV0.1.2 (by decide)
    have h4 : f_dn M i 7 0 0 7 + 1 ≤ 9999 := by
      rw [h3, k2, nI_add, nI_1]
      rw [k2, nI_add] at hd
      have := (nI_leI (a := k + v) (b := 9999) (by omega) (by decide)).mp hd
      exact (nI_le (by omega) (by decide) : nI (k + i + 1) ≤ nI 9999)
    obtain ⟨h5, h6⟩ := y_day h1 h4
    refine ⟨h5, ?_⟩
    show f_dl M i + f_ln (f_dn M i) 0 10 = k_dl K i + k_ln (k_dn K i) 10
    rw [h2, h6]
theorem y_digger (h : y_W M K n N B) (hN : N < 8) : y_W (m_set M 7 0 0 5 (nI (N + 1))) (m_set (k_dg K N 8) 16 0 0 1 (nI (N + 1))) n (N + 1) B := by
  have hD := h.2.2.1.2.1.2
  refine y_op h (fun a b c k h => by simp (disch := omega) only [m_set_n]) (o_digger h.2.2.1 hN) ⟨fun d hd => ?_, ?_⟩
  · by_cases e : d = N
    · subst e
      refine ⟨0, 0, 0, 0, 0, ⟨?_, ?_, ?_, ?_, ?_⟩, by omega, rfl, by omega, by omega⟩
      all_goals rw [m_set_n (by omega), hD d (Nat.le_refl _) hN _ (by decide)]; rfl
    · obtain ⟨s, t, q, y, g, ⟨a1, a2, a3, a4, a5⟩, r⟩ := h.2.2.2.1.1 d (by omega)
      refine ⟨s, t, q, y, g, ⟨?_, ?_, ?_, ?_, ?_⟩, r⟩
      all_goals rw [m_set_n (by omega)]; assumption
  · have e1 : f_tot (m_set M 7 0 0 5 (nI (N + 1))) 0 4 (N + 1) = f_tot M 0 4 (N + 1) := f_tot_cg _ (fun d _ => m_set_n (by omega))
    have e2 : f_tot M 0 4 (N + 1) = f_tot M 0 4 N := by
      show f_tot M 0 4 N + M 12 0 N 4 = _
      rw [hD N (Nat.le_refl _) hN 4 (by decide), if_neg (by decide), Int32.add_zero]
    rw [e1, e2, h.2.2.2.1.2, f_fib_e, f_fib_e, m_set_n (by omega), f_fb_cg B (fun b _ => m_set_n (by omega))]
theorem y_melt (h : y_W M K n N B) (hB : B < 12) (hl : 0 < M 14 0 12 0) : y_W (f_melt M 0 B) (k_me K B) n N (B + 1) := by
  have hN := h.2.2.1.1.1.1
  have o12 : ∀ d k, f_melt M 0 B 12 0 d k = M 12 0 d k := fun d k => by simp (disch := omega) only [f_melt, m_cp_o, m_set_n]
  refine y_op h (fun a b c k h => w_melt h) (o_melt h.2.2.1 hB hl) ⟨fun d hd => ?_, ?_⟩
  · obtain ⟨s, t, q, y, g, ⟨a1, a2, a3, a4, a5⟩, r⟩ := h.2.2.2.1.1 d hd
    refine ⟨s, t, q, y, g, ⟨?_, ?_, ?_, ?_, ?_⟩, r⟩
    all_goals rw [o12]; assumption
  · rw [f_tot_cg N (fun d _ => o12 d 4), h.2.2.2.1.2, f_fib_e, f_fib_e]
    show M 14 0 12 1 + f_fb M B = f_melt M 0 B 14 0 12 1 + (f_fb (f_melt M 0 B) B + f_melt M 0 B 14 0 B 1)
    have e1 : f_melt M 0 B 14 0 12 1 = 0 := by simp (disch := omega) only [f_melt, m_cp_o, m_cp_i, m_set_n, m_set_i]
    have e2 : f_melt M 0 B 14 0 B 1 = M 14 0 12 1 := by simp (disch := omega) only [f_melt, m_cp_o, m_cp_i, m_set_n, m_set_i]
    rw [e1, e2, f_fb_cg (M := M) (M' := f_melt M 0 B) B (fun b _ => by simp (disch := omega) only [f_melt, m_cp_o, m_cp_i, m_set_n, m_set_i]), Int32.zero_add, Int32.add_comm]
/-- what is paid for some grains -/
theorem y_pay (hV : r_V M 0) {g : Nat} (hg : g ≤ 9999) : ∃ p, p ≤ 105 * g ∧ f_pay M 0 (nI g) = nI p := by
  obtain ⟨-, he, hf, hs, hw, -, -⟩ := hV
  obtain ⟨e, e1, e2⟩ := r_e he
  obtain ⟨f, f1, f2⟩ := nI_upto (N := 1000) (Int32.le_trans (by decide) hf.1) hf.2 (by decide)
  obtain ⟨s, s1, s2⟩ := nI_upto (N := 999) (Int32.le_trans (by decide) hs.1) hs.2 (by decide)
  obtain ⟨w, w1, w2⟩ := nI_upto (N := 50) hw.1 hw.2 (by decide)
  have m1 : g * e ≤ g * 1050 := Nat.mul_le_mul_left _ e1
  have ht : f_told M 0 (nI g) = nI (g * e / 1000) := by
    unfold f_told
    rw [e2, nI_mul]
    exact nI_quo (b := 1000) (by omega) (by decide) (by decide)
  have t1 := Nat.div_mul_le_self (g * e) 1000
  generalize hT : g * e / 1000 = T at ht t1
  have t2 : T ≤ 10498 := by omega
  have m2 : T * f ≤ T * 1000 := Nat.mul_le_mul_left _ f1
  have u1 := Nat.div_mul_le_self (T * f) 1000
  generalize hU : T * f / 1000 = U at u1
  have u2 : U ≤ T := by omega
  have m3 : U * s ≤ U * 999 := Nat.mul_le_mul_left _ s1
  have hp : f_priceN M 0 (nI g) = nI (U * s / 10) := by
    unfold f_priceN f_price f_worth
    rw [ht, f2, nI_mul, s2]
    have q1 : nI (T * f) / 1000 = nI U := by
      rw [← hU]
      exact nI_quo (b := 1000) (by omega) (by decide) (by decide)
    rw [q1, nI_mul]
    exact nI_quo (b := 10) (by omega) (by decide) (by decide)
  have p1 := Nat.div_mul_le_self (U * s) 10
  generalize hP : U * s / 10 = P at hp p1
  have p2 : P ≤ 1048751 := by omega
  have m4 : w * P ≤ 50 * P := Nat.mul_le_mul_right _ w1
  have hfee : f_fee M 0 (nI g) = nI (w * P / 100) := by
    unfold f_fee
    rw [hp, w2, nI_mul]
    exact nI_quo (b := 100) (by omega) (by decide) (by decide)
  have x1 := Nat.div_mul_le_self (w * P) 100
  generalize w * P / 100 = X at hfee x1
  refine ⟨P - X, by omega, ?_⟩
  unfold f_pay
  rw [hp, hfee, nI_subs (by omega)]
theorem y_weigh (h : y_W M K n N B) {d c : Nat} {g : Int32} (hd : d < N) (hc : c < 10) (ho : M 12 0 d 2 = nI c) (hg : 1 ≤ g ∧ g ≤ 9999) (hl : M 14 0 12 0 + g ≤ 99999) : y_W (f_wi M 0 d c g) (k_wi K d c g) n N B := by
  have hN := h.2.2.1.1.1.1
  have hB := h.2.2.1.1.2.1.1
  have hC := o_weigh h.2.2.1 hd hc ho hg hl
  refine y_op h (fun a b c k h => w_wi h) hC ⟨fun d' hd' => ?_, ?_⟩
  · by_cases e : d' = d
    · subst e
      obtain ⟨s, t, q, y, g', ⟨a1, a2, a3, a4, a5⟩, r1, r2, r3, r4⟩ := h.2.2.2.1.1 d' hd'
      obtain ⟨gn, g1, rfl⟩ := nI_upto (N := 9999) (Int32.le_trans (by decide) hg.1) hg.2 (by decide)
      obtain ⟨p, p1, p2⟩ := y_pay h.2.2.1.2.2.2.2.2.1 g1
      have eg : f_wi M 0 d' c (nI gn) 12 0 d' 3 = nI (g' + gn) := by
        simp (disch := omega) only [f_wi, f_rc, f_ga, f_cw_o, m_set_n, m_set_i]
        rw [a5, nI_add]
      have gb : g' + gn ≤ 1299987 := by
        obtain ⟨gs, ps, w, l, z1, z2, z3, z4, z5⟩ := hC.2.2.2.2.2.2.2
        have := (z1 d' hd').1
        rw [eg] at this
        have w1 := v_le w 99999 B (fun b hb => (z2 b hb).2.2)
        have w2 : 99999 * B ≤ 99999 * 12 := Nat.mul_le_mul_left _ hB
        have w3 := v_at gs N d' hd'
        have := (nI_eq (by omega) (by omega)).mp this
        omega
      have hh : ∃ hf, hf ≤ t ∧ hf ≤ p ∧ (if f_pay M 0 (nI gn) / 2 < M 12 0 d' 1 then f_pay M 0 (nI gn) / 2 else M 12 0 d' 1) = nI hf := by
        have e2 : nI p / 2 = nI (p / 2) := nI_quo (b := 2) (by omega) (by decide) (by decide)
        rw [p2, a2, e2]
        by_cases q : p / 2 < t
        · exact ⟨p / 2, by omega, by omega, if_pos (nI_lt q (by omega))⟩
        · exact ⟨t, Nat.le_refl _, by omega, if_neg (nI_nlt (by omega) (by omega))⟩
      obtain ⟨hf, f1, f2, f3⟩ := hh
      refine ⟨s + (p - hf), t - hf, q, y + p, g' + gn, ⟨?_, ?_, ?_, ?_, eg⟩, by omega, by omega, by omega, gb⟩
      · simp (disch := omega) only [f_wi, f_rc, f_ga, f_cw_o, m_set_n, m_set_i]
        rw [f3, p2, a1, nI_subs f2, nI_add]
      · simp (disch := omega) only [f_wi, f_rc, f_ga, f_cw_o, m_set_n, m_set_i]
        rw [f3, a2, nI_subs f1]
      · simp (disch := omega) only [f_wi, f_rc, f_ga, f_cw_o, m_set_n, m_set_i]
        exact a3
      · simp (disch := omega) only [f_wi, f_rc, f_ga, f_cw_o, m_set_n, m_set_i]
        rw [p2, a4, nI_add]
    · obtain ⟨s, t, q, y, g', ⟨a1, a2, a3, a4, a5⟩, r⟩ := h.2.2.2.1.1 d' hd'
      refine ⟨s, t, q, y, g', ⟨?_, ?_, ?_, ?_, ?_⟩, r⟩
      all_goals simp (disch := omega) only [f_wi, f_rc, f_ga, f_cw_o, m_set_n, m_set_i]; assumption
  · have e1 : f_tot (f_wi M 0 d c g) 0 4 N = f_tot M 0 4 N + g * M 13 0 c 0 / 1000 := f_tot_up (by simp (disch := omega) only [f_wi, f_rc, f_ga, f_cw_o, m_set_n, m_set_i]) N hd (fun i _ hi => by simp (disch := omega) only [f_wi, f_rc, f_ga, f_cw_o, m_set_n, m_set_i])
    have e2 : f_wi M 0 d c g 14 0 12 1 = M 14 0 12 1 + g * M 13 0 c 0 / 1000 := by simp (disch := omega) only [f_wi, f_rc, f_ga, f_cw_o, m_set_n, m_set_i]
    rw [e1, h.2.2.2.1.2, f_fib_e, f_fib_e, e2, f_fb_cg (M := M) (M' := f_wi M 0 d c g) B (fun b hb => by simp (disch := omega) only [f_wi, f_rc, f_ga, f_cw_o, m_set_n, m_set_i]), Int32.add_assoc, Int32.add_assoc, Int32.add_comm (f_fb M B)]
theorem y_buy (h : y_W M K n N B) {d : Nat} {g : Int32} (hd : d < N) (hg : 1 ≤ g ∧ g ≤ 9999) (hf : f_da M 0 d g ≤ 5000) : y_W (f_sp M 0 d g) (k_bu K d g) n N B := by
  have hN := h.2.2.1.1.1.1
  have hB := h.2.2.1.1.2.1.1
  refine y_op h (fun a b c k h => w_sp h) (o_buy h.2.2.1 hd) ⟨fun d' hd' => ?_, ?_⟩
  · by_cases e : d' = d
    · subst e
      obtain ⟨s, t, q, y, g', ⟨a1, a2, a3, a4, a5⟩, r1, r2, r3, r4⟩ := h.2.2.2.1.1 d' hd'
      obtain ⟨c, c1, rfl⟩ := nI_upto (N := 9999) (Int32.le_trans (by decide) hg.1) hg.2 (by decide)
      unfold f_da at hf
      rw [a1, a2] at hf
      by_cases z : s < c
      · have z2 : nI s < nI c := nI_lt z (by omega)
        rw [if_pos z2, nI_subs (by omega), nI_add] at hf
        have z3 := (nI_leI (a := t + (c - s)) (b := 5000) (by omega) (by decide)).mp hf
        refine ⟨0, t + (c - s), q + c, y, g', ⟨?_, ?_, ?_, ?_, ?_⟩, z3, by omega, r3, r4⟩
        · simp (disch := omega) only [f_sp, m_set_n, m_set_i]
          rw [a1, if_pos z2]
          rfl
        · simp (disch := omega) only [f_sp, m_set_n, m_set_i]
          unfold f_da
          rw [a1, a2, if_pos z2, nI_subs (by omega), nI_add]
        · simp (disch := omega) only [f_sp, m_set_n, m_set_i]
          rw [a3, nI_add]
        · simp (disch := omega) only [f_sp, m_set_n, m_set_i]
          exact a4
        · simp (disch := omega) only [f_sp, m_set_n, m_set_i]
          exact a5
      · have z2 : ¬ nI s < nI c := nI_nlt (by omega) (by omega)
        refine ⟨s - c, t, q + c, y, g', ⟨?_, ?_, ?_, ?_, ?_⟩, r1, by omega, r3, r4⟩
        · simp (disch := omega) only [f_sp, m_set_n, m_set_i]
          rw [a1, if_neg z2, nI_subs (by omega)]
        · simp (disch := omega) only [f_sp, m_set_n, m_set_i]
          unfold f_da
          rw [a1, a2, if_neg z2]
        · simp (disch := omega) only [f_sp, m_set_n, m_set_i]
          rw [a3, nI_add]
        · simp (disch := omega) only [f_sp, m_set_n, m_set_i]
          exact a4
        · simp (disch := omega) only [f_sp, m_set_n, m_set_i]
          exact a5
    · obtain ⟨s, t, q, y, g', ⟨a1, a2, a3, a4, a5⟩, r⟩ := h.2.2.2.1.1 d' hd'
      refine ⟨s, t, q, y, g', ⟨?_, ?_, ?_, ?_, ?_⟩, r⟩
      all_goals simp (disch := omega) only [f_sp, m_set_n]; assumption
  · rw [f_tot_cg (M := M) (M' := f_sp M 0 d g) N (fun i _ => by simp (disch := omega) only [f_sp, m_set_n]), h.2.2.2.1.2, f_fib_e, f_fib_e, f_fb_cg (M := M) (M' := f_sp M 0 d g) B (fun b hb => by simp (disch := omega) only [f_sp, m_set_n])]
    simp (disch := omega) only [f_sp, m_set_n]
end STATE
