/-! WHAT A CALL of both does: the frame of it. -/
section SIM
variable {M M' K K' : m_Mem} {n N B N' B' L : Nat}
theorem o_keep (h : r_T M K n N B L) {t : Nat} (ht : t < 2) : r_T (m_set (f_cm M (1 + t) 0) 3 0 0 t 1) (m_set (k_bl K 18 (173 * t) 16 0 173) 19 0 0 t 1) n N B L := by
  obtain ⟨t1, t2, t3, t4, t5, t6, t7, t8⟩ := h
  generalize hM1 : m_set (f_cm M (1 + t) 0) 3 0 0 t 1 = M1
  generalize hK1 : m_set (k_bl K 18 (173 * t) 16 0 173) 19 0 0 t 1 = K1
  have oC : ∀ j a c k, j ≠ 1 + t → r_dm a c k → M1 a j c k = M a j c k := fun j a c k hj hd => by
    unfold r_dm at hd
    rw [← hM1, m_set_n (by omega), f_cm_o _ _ _ _ _ _ _ hj]
  have nC : ∀ a c k, r_dm a c k → M1 a (1 + t) c k = M a 0 c k := fun a c k hd => by
    have hd2 := hd
    unfold r_dm at hd2
    rw [← hM1, m_set_n (by omega), f_cm_i (by omega) hd]
  have nO : ∀ a b c k, (a < 7 ∨ 15 ≤ a) → a ≠ 3 → M1 a b c k = M a b c k := fun a b c k h1 h3 => by rw [← hM1, m_set_n (by omega), f_cm_n (by omega)]
  have kO : ∀ a b c k, a ≠ 18 → a ≠ 19 → K1 a b c k = K a b c k := fun a b c k h1 h3 => by rw [← hK1, m_set_n (by omega), k_bl_n (by omega)]
  have q := f_q_cg (M := M) (M' := M1) (fun i => nO 4 0 0 i (by omega) (by omega))
  refine ⟨?_, ?_, ?_, ?_, ?_, ?_, ?_, ?_⟩
  · rw [nO _ _ _ _ (by omega) (by omega), kO _ _ _ _ (by omega) (by omega)]
    exact t1
  · refine ⟨fun i hi => ?_, fun i k hi hk e => ?_⟩
    · rw [q, nO _ _ _ _ (by omega) (by omega)]
      exact t2.1 i hi
    · rw [q, q] at e
      exact t2.2 i k hi hk e
  · intro j hj c hc
    by_cases e : j = 1 + t
    · subst e
      rw [nC 13 c 3 (Or.inr (Or.inr (Or.inr (Or.inl ⟨rfl, hc, by decide⟩))))]
      exact t3 0 (by decide) c hc
    · rw [oC j 13 c 3 e (Or.inr (Or.inr (Or.inr (Or.inl ⟨rfl, hc, by decide⟩))))]
      exact t3 j hj c hc
  · exact r_cg2 t4 (fun a c k hd => oC 0 a c k (by omega) hd) (fun i hi => kO _ _ _ _ (by omega) (by omega))
  · intro u hu
    by_cases e : u = t
    · subst e
      refine ⟨by rw [← hM1, ← hK1, m_set_i, m_set_i], fun _ => ⟨N, B, r_cg2 t4 nC (fun i hi => ?_)⟩⟩
      rw [← hK1, m_set_n (by omega), k_bl_i (by omega)]
      exact congrArg (K 16 0 0) (by omega)
    · obtain ⟨s1, s2⟩ := t5 u hu
      have e3 : M1 3 0 0 u = M 3 0 0 u := by rw [← hM1, m_set_n (by omega), f_cm_n (by omega)]
      have e4 : K1 19 0 0 u = K 19 0 0 u := by rw [← hK1, m_set_n (by omega), k_bl_n (by omega)]
      refine ⟨by rw [e3, e4]; exact s1, fun q2 => ?_⟩
      rw [e3] at q2
      obtain ⟨N1, B1, s3⟩ := s2 q2
      exact ⟨N1, B1, r_cg2 s3 (fun a c k hd => oC (1 + u) a c k (by omega) hd) (fun i hi => by rw [← hK1, m_set_n (by omega), k_bl_n (by omega)])⟩
  · intro i hi
    obtain ⟨N1, B1, s3⟩ := t6 i hi
    refine ⟨N1, B1, ?_⟩
    rw [q]
    exact r_cg2 s3 (fun a c k hd => oC (3 + f_q M i) a c k (by omega) hd) (fun x hx => kO _ _ _ _ (by omega) (by omega))
  · obtain ⟨⟨x1, x2, x3⟩, x4, x5⟩ := t7
    refine ⟨⟨x1, ?_, ?_⟩, fun i hi => ?_, fun i hi => ?_⟩
    · rw [nO _ _ _ _ (by omega) (by omega)]
      exact x2
    · rw [kO _ _ _ _ (by omega) (by omega)]
      exact x3
    · rw [nO _ _ _ _ (by omega) (by omega), kO _ _ _ _ (by omega) (by omega)]
      exact x4 i hi
    · rw [nO _ _ _ _ (by omega) (by omega)]
      exact x5 i hi
  · refine ⟨fun j hj => ?_, fun j hj => ?_⟩
    · rw [nO _ _ _ _ (by omega) (by omega)]
      exact t8.1 j hj
    · rw [nO _ _ _ _ (by omega) (by omega)]
      exact t8.2 j hj
theorem o_back (h : r_T M K n N B L) {t : Nat} (ht : t < 2) (hk : M 3 0 0 t ≠ 0) : ∃ N' B', r_T (f_cm M 0 (1 + t)) (k_bl K 16 0 18 (173 * t) 173) n N' B' L := by
  obtain ⟨N1, B1, s3⟩ := (h.2.2.2.2.1 t ht).2 hk
  refine ⟨N1, B1, r_Tnow h (r_cg2 s3 (fun a c k hd => f_cm_i (by omega) hd) (fun i hi => ?_)) (fun a b c k hh => ?_) (fun a b c k h1 h2 h3 h4 => k_bl_n (by omega))⟩
  · rw [k_bl_i (by omega)]
    exact congrArg (K 18 0 0) (by omega)
  · rcases hh with hh | hh
    · exact f_cm_o _ _ _ _ _ _ _ hh
    · exact f_cm_n (by omega)
theorem o_undo (h : r_T M K (n + 1) N B L) : ∃ N' B', r_T (f_cm (m_set M 1 0 0 5 (nI n)) 0 (3 + f_q M n)) (k_bl (m_set K 15 0 0 4 (nI n)) 16 0 17 (173 * n) 173) n N' B' L := by
  have hn := h.1.1
  have h2 : r_T (m_set M 1 0 0 5 (nI n)) (m_set K 15 0 0 4 (nI n)) n N B L := by
    obtain ⟨t1, t2, t3, t4, t5, t6, t7, t8⟩ := h
    refine ⟨⟨by omega, m_set_i, m_set_i⟩, t2, t3, t4, t5, fun i hi => t6 i (by omega), ?_, t8⟩
    obtain ⟨⟨x1, x2, x3⟩, x4, x5⟩ := t7
    exact ⟨⟨x1, x2, x3⟩, x4, x5⟩
  obtain ⟨N1, B1, s3⟩ := h.2.2.2.2.2.1 n (by omega)
  refine ⟨N1, B1, r_Tnow h2 (r_cg2 s3 (fun a c k hd => ?_) (fun i hi => ?_)) (fun a b c k hh => ?_) (fun a b c k h1 h2 h3 h4 => k_bl_n (by omega))⟩
  · have hd2 := hd
    unfold r_dm at hd2
    rw [f_cm_i (by omega) hd, m_set_n (by omega)]
  · rw [k_bl_i (by omega), m_set_n (by omega)]
    exact congrArg (K 17 0 0) (by omega)
  · rcases hh with hh | hh
    · exact f_cm_o _ _ _ _ _ _ _ hh
    · exact f_cm_n (by omega)
theorem z_fI (h : r_T M K n N B L) : f_I M n N B := ⟨⟨h.1.1, h.1.2.1⟩, ⟨h.2.2.2.1.1.1.1, h.2.2.2.1.1.1.2.1⟩, ⟨h.2.2.2.1.1.2.1.1, h.2.2.2.1.1.2.1.2.1⟩, h.2.1.1, h.2.2.1 0 (by decide)⟩
theorem z_kJ (h : r_T M K n N B L) : k_J K n N B := ⟨⟨h.1.1, h.1.2.2⟩, ⟨h.2.2.2.1.1.1.1, h.2.2.2.1.1.1.2.2⟩, ⟨h.2.2.2.1.1.2.1.1, h.2.2.2.1.1.2.1.2.2⟩⟩
theorem z_C (h : r_T M K n N B L) : r_C M 0 (K 16 0 0) N B := h.2.2.2.1
/-- the model's check before a call that is in reach -/
theorem z_k0 (h : r_T M K n N B L) : r_T M (k_0 K) n N B L := r_Tcg h (fun _ _ _ _ _ => rfl) (fun a b c k h1 h2 h3 => k_0_o _ _ _ _ _ (by omega))
/-- both are as they should be, and nothing of the law's own is lost -/
def z_ok (M M2 : m_Mem) : Prop := (∃ n N B L, r_T M2 M2 n N B L) ∧ ∀ a b c k, 23 ≤ a → a ≠ 28 → M2 a b c k = M a b c k
/-- both answer the same -/
def z_V (X Y : Nat) (as asm : List Value) (M : m_Mem) : Prop := ∃ v M1 M2, m_cl X as M = some (.inl (some (.int v)), M1) ∧ m_cl Y asm (m_set M1 22 0 0 0 v) = some (.inl (some (.int v)), M2) ∧ M2 15 0 0 5 = 0 ∧ M2 22 0 0 0 = v ∧ M2 28 0 0 0 = M 28 0 0 0 ∧ z_ok M M2 ∧ ∀ a b c k, 23 ≤ a → M1 a b c k = M a b c k
/-- both refuse, with the same number; f numbers the class's exceptions -/
def z_E (X Y : Nat) (as asm : List Value) (M : m_Mem) (f : String → Option Int32) : Prop := ∃ E num b M2, m_cl X as M = some (.inr E, M) ∧ f E = some num ∧ num ≠ 0 ∧ m_cl Y asm (m_bump M) = some (.inl (some (.int b)), M2) ∧ M2 15 0 0 5 = num ∧ M2 28 0 0 0 = M 28 0 0 0 + 1 ∧ z_ok M M2
def z_S (X Y : Nat) (as asm : List Value) (M : m_Mem) (f : String → Option Int32) : Prop := z_V X Y as asm M ∨ z_E X Y as asm M f
theorem z_e {X Y : Nat} {as asm : List Value} {f : String → Option Int32} {E : String} {num : Int32} (hT : r_T M M n N B L) (h1 : m_cl X as M = some (.inr E, M)) (hf : f E = some num) (h0 : num ≠ 0) (h2 : ∀ K, r_T M K n N B L → m_cl Y asm K = k_x K num) : z_S X Y as asm M f := by
  have hb : r_T M (m_bump M) n N B L := r_Tcg hT (fun _ _ _ _ _ => rfl) (fun a b c k h1 h2 h3 => m_bump_o _ _ _ _ _ (by omega))
  refine Or.inr ⟨E, num, 0, m_set (k_0 (m_bump M)) 15 0 0 5 num, h1, hf, h0, h2 _ hb, m_set_i, ?_, ⟨n, N, B, L, ?_⟩, fun a b c k h3 h4 => ?_⟩
  · rw [m_set_n (by omega), k_0_o _ _ _ _ _ (by omega)]
    unfold m_bump
    rw [m_set_i]
  · refine r_Tcg hT (fun a b c k hh => ?_) (fun a b c k h3 h4 h5 => ?_)
    · rw [m_set_n (by omega), k_0_o _ _ _ _ _ (by omega), m_bump_o _ _ _ _ _ (by omega)]
    · rw [m_set_n (by omega), k_0_o _ _ _ _ _ (by omega), m_bump_o _ _ _ _ _ (by omega)]
  · rw [m_set_n (by omega), k_0_o _ _ _ _ _ (by omega), m_bump_o _ _ _ _ _ h4]
/-- the memory that the model's call begins with: the class's call is done, its answer is kept -/
def z_K (M1 : m_Mem) (v : Int32) : m_Mem := m_set M1 22 0 0 0 v
theorem z_K_o {M1 : m_Mem} {v : Int32} {a b c k : Nat} (h : a ≠ 22) : z_K M1 v a b c k = M1 a b c k := m_set_n (by omega)
theorem z_v {X Y : Nat} {as asm : List Value} {f : String → Option Int32} {v : Int32} {M1 : m_Mem} (hT : r_T M M n N B L) (h1 : m_cl X as M = some (.inl (some (.int v)), M1)) (f1 : ∀ a b c k, 15 ≤ a → M1 a b c k = M a b c k)
    (h2 : ∀ K, r_T M K n N B L → ∃ K2, m_cl Y asm K = some (.inl (some (.int v)), K2) ∧ (∀ a b c k, (a < 15 ∨ 21 < a) → K2 a b c k = K a b c k) ∧ K2 15 0 0 5 = 0 ∧ ∃ n' N' B' L', r_T M1 K2 n' N' B' L') : z_S X Y as asm M f := by
  have hb : r_T M (z_K M1 v) n N B L := r_Tcg hT (fun _ _ _ _ _ => rfl) (fun a b c k h1 h2 h3 => by rw [z_K_o (by omega)]; exact f1 a b c k h1)
  obtain ⟨K2, g1, g2, g3, n', N', B', L', g4⟩ := h2 _ hb
  refine Or.inl ⟨v, M1, K2, h1, g1, g3, ?_, ?_, ⟨⟨n', N', B', L', ?_⟩, fun a b c k h3 h4 => ?_⟩, fun a b c k h => f1 _ _ _ _ (by omega)⟩
  · rw [g2 _ _ _ _ (by omega)]
    exact m_set_i
  · rw [g2 _ _ _ _ (by omega), z_K_o (by omega), f1 _ _ _ _ (by omega)]
  · exact r_Tcg g4 (fun a b c k hh => by rw [g2 _ _ _ _ (by omega), z_K_o (by omega)]) (fun _ _ _ _ _ _ _ => rfl)
  · rw [g2 _ _ _ _ (by omega), z_K_o (by omega), f1 _ _ _ _ (by omega)]
-- frames
theorem f_sv_15 {a b c k : Nat} (h : 15 ≤ a) : f_sv M n a b c k = M a b c k := by
  unfold f_sv
  split
  · rw [m_set_n (by omega), f_cm_n (by omega)]
  · rw [m_set_n (by omega), f_cm_n (by omega), m_set_n (by omega)]
    exact if_neg (by omega)
theorem k_sv_15 {a b c k : Nat} (h : a < 15 ∨ 21 < a) : k_sv (k_0 K) n a b c k = K a b c k := by rw [k_sv_o _ _ _ _ _ _ (by omega) (by omega), k_0_o _ _ _ _ _ (by omega)]
theorem k_sv_5 : k_sv (k_0 K) n 15 0 0 5 = 0 := by rw [k_sv_o _ _ _ _ _ _ (by omega) (by omega)]; exact m_set_i
/-- the saved state -/
theorem z_sv (h : r_T M K n N B L) : r_T (f_sv M n) (k_sv (k_0 K) n) (r_n n) N B L := o_save (z_k0 h)
-- what is asked of rows
theorem z_tk (h : r_L M 0 (K 16 0 0)) (hO : r_O M 0 N) (hN : N ≤ 8) : ∀ n, n ≤ 10 → f_tk M 0 n = k_tk K n
  | 0, _ => rfl
  | n + 1, hn => by
    have l1 := (h n (by omega)).2.1
    show (if M 13 0 n 1 = -1 then f_tk M 0 n else f_tk M 0 n + 1) = (if K 16 0 0 (77 + 6 * n + 1) < 0 then k_tk K n + 0 else k_tk K n + 1)
    rw [z_tk h hO hN n (by omega), ← l1, Int32.add_zero]
    rcases hO.1 n (by omega) with e | ⟨d, h1, h2⟩
    · rw [e, if_pos rfl, if_pos (by decide)]
    · rw [h2, if_neg (nI_m1 (by omega)), if_neg (nI_pos (by omega))]
theorem z_taken (h : r_C M 0 (K 16 0 0) N B) : f_tk M 0 10 = k_tk K 10 := z_tk h.2.2.1 h.2.2.2.2.1 h.1.1.1 10 (Nat.le_refl _)
theorem zc_has (h : r_C M 0 (K 16 0 0) N B) (d : Int32) : f_is d (K 16 0 0 1) = f_has d (M 7 0 0 5) 8 := by
  rw [h.1.1.2.1, h.1.1.2.2]
  exact f_is_has d N 8 h.1.1.1 (by decide)
theorem zc_hasd (h : r_C M 0 (K 16 0 0) N B) {d : Int32} (hd : ¬ f_has d (M 7 0 0 5) 8 = 0) : ∃ d', d' < N ∧ d = nI d' := by
  have h1 := (f_has_c d (M 7 0 0 5) 8).resolve_right hd
  rw [h.1.1.2.1] at h1
  exact f_has1 (L := 8) h.1.1.1 (by decide) h1
theorem z_has (h : r_T M K n N B L) (d : Int32) : f_is d (K 16 0 0 1) = f_has d (M 7 0 0 5) 8 := zc_has (z_C h) d
theorem z_hasd (h : r_T M K n N B L) {d : Int32} (hd : ¬ f_has d (M 7 0 0 5) 8 = 0) : ∃ d', d' < N ∧ d = nI d' := zc_hasd (z_C h) hd
theorem z_own (h : r_C M 0 (K 16 0 0) N B) {d : Nat} (hd : d < N) : (0 ≤ K 16 0 0 (13 + 8 * d + 2) ↔ ¬ M 12 0 d 2 = -1) ∧ (K 16 0 0 (13 + 8 * d + 2) < 0 ↔ M 12 0 d 2 = -1) := by
  have e := h.2.1.1 d hd 2 (by decide)
  rw [← e]
  rcases h.2.2.2.2.1.2 d hd with q | ⟨c, c1, c2, c3⟩
  · rw [q]
    decide
  · rw [c2]
    have z := @nI_m1 c (by omega)
    exact ⟨⟨fun _ => z, fun _ => nI_pos' (by omega)⟩, ⟨fun q => absurd q (nI_pos (by omega)), fun q => absurd q z⟩⟩
theorem z_who (h : r_C M 0 (K 16 0 0) N B) {c : Nat} (hc : c < 10) : 0 ≤ K 16 0 0 (77 + 6 * c + 1) ↔ ¬ M 13 0 c 1 = -1 := by
  have e := (h.2.2.1 c hc).2.1
  have hN := h.1.1.1
  rw [← e]
  rcases h.2.2.2.2.1.1 c hc with q | ⟨d, d1, d2⟩
  · rw [q]
    decide
  · rw [d2]
    exact ⟨fun _ => nI_m1 (by omega), fun _ => nI_pos' (by omega)⟩
theorem zc_ms (h : r_C M 0 (K 16 0 0) N B) (d c : Int32) : k_ms K d c = if f_has d (M 7 0 0 5) 8 = 0 then 1 else if f_bw c 0 9 = 0 then 2 else if M 12 0 d.toNatClampNeg 2 = -1 ∧ M 13 0 c.toNatClampNeg 1 = -1 then 0 else 3 := by
  unfold k_ms
  rw [zc_has h]
  by_cases c1 : f_has d (M 7 0 0 5) 8 = 0
  · rw [if_pos c1, if_pos c1]
  · rw [if_neg c1, if_neg c1]
    by_cases c2 : f_bw c 0 9 = 0
    · rw [if_pos c2, if_pos c2]
    · rw [if_neg c2, if_neg c2]
      obtain ⟨d', d1, rfl⟩ := zc_hasd h c1
      obtain ⟨c', k1, rfl⟩ := f_bw_0n (U := 9) ((f_bw_c c 0 9).resolve_right c2) (by decide)
      have hN := h.1.1.1
      rw [nI_clamp (by omega), nI_clamp (by omega)]
      have w1 := (z_own h d1).1
      have w2 := z_who h (c := c') (by omega)
      by_cases q : M 12 0 d' 2 = -1 ∧ M 13 0 c' 1 = -1
      · rw [if_pos q, if_neg]
        rintro (z | z)
        · exact w1.mp z q.1
        · exact w2.mp z q.2
      · rw [if_neg q, if_pos]
        by_cases q1 : M 12 0 d' 2 = -1
        · exact Or.inr (w2.mpr (fun z => q ⟨q1, z⟩))
        · exact Or.inl (w1.mpr q1)
theorem z_ms (h : r_T M K n N B L) (d c : Int32) : k_ms K d c = if f_has d (M 7 0 0 5) 8 = 0 then 1 else if f_bw c 0 9 = 0 then 2 else if M 12 0 d.toNatClampNeg 2 = -1 ∧ M 13 0 c.toNatClampNeg 1 = -1 then 0 else 3 := zc_ms (z_C h) d c
theorem zc_mw (h : r_C M 0 (K 16 0 0) N B) (d g : Int32) : k_mw K d g = if f_has d (M 7 0 0 5) 8 = 0 then 1 else if f_bw g 1 9999 = 0 then 2 else if ¬ M 12 0 d.toNatClampNeg 2 = -1 ∧ M 14 0 12 0 + g ≤ 99999 then 0 else 3 := by
  unfold k_mw
  rw [zc_has h]
  by_cases c1 : f_has d (M 7 0 0 5) 8 = 0
  · rw [if_pos c1, if_pos c1]
  · rw [if_neg c1, if_neg c1]
    by_cases c2 : f_bw g 1 9999 = 0
    · rw [if_pos c2, if_pos c2]
    · rw [if_neg c2, if_neg c2]
      obtain ⟨d', d1, rfl⟩ := zc_hasd h c1
      have hN := h.1.1.1
      rw [nI_clamp (by omega), ← h.1.2.2.2.1.1]
      have w1 := (z_own h d1).2
      by_cases q : ¬ M 12 0 d' 2 = -1 ∧ M 14 0 12 0 + g ≤ 99999
      · rw [if_pos q, if_neg]
        rintro (z | z)
        · exact q.1 (w1.mp z)
        · exact Int32.not_lt.mpr q.2 z
      · rw [if_neg q, if_pos]
        by_cases q1 : M 12 0 d' 2 = -1
        · exact Or.inl (w1.mpr q1)
        · exact Or.inr (Int32.not_le.mp (fun z => q ⟨q1, z⟩))
theorem z_mw (h : r_T M K n N B L) (d g : Int32) : k_mw K d g = if f_has d (M 7 0 0 5) 8 = 0 then 1 else if f_bw g 1 9999 = 0 then 2 else if ¬ M 12 0 d.toNatClampNeg 2 = -1 ∧ M 14 0 12 0 + g ≤ 99999 then 0 else 3 := zc_mw (z_C h) d g
theorem z_lk (h : r_C M 0 (K 16 0 0) N B) {d : Nat} (hd : d < N) (g : Int32) : f_da M 0 d g = K 16 0 0 (13 + 8 * d + 1) + k_lk K d g := by
  unfold f_da k_lk
  rw [h.2.1.1 d hd 0 (by decide), h.2.1.1 d hd 1 (by decide)]
  split
  · rfl
  · rw [Int32.add_zero]
theorem zc_mb (h : r_C M 0 (K 16 0 0) N B) (d g : Int32) : k_mb K d g = if f_has d (M 7 0 0 5) 8 = 0 then 1 else if f_bw g 1 9999 = 0 then 2 else if f_da M 0 d.toNatClampNeg g ≤ 5000 then 0 else 3 := by
  unfold k_mb
  rw [zc_has h]
  by_cases c1 : f_has d (M 7 0 0 5) 8 = 0
  · rw [if_pos c1, if_pos c1]
  · rw [if_neg c1, if_neg c1]
    by_cases c2 : f_bw g 1 9999 = 0
    · rw [if_pos c2, if_pos c2]
    · rw [if_neg c2, if_neg c2]
      obtain ⟨d', d1, rfl⟩ := zc_hasd h c1
      have hN := h.1.1.1
      rw [nI_clamp (by omega), ← z_lk h d1]
      by_cases q : f_da M 0 d' g ≤ 5000
      · rw [if_pos q, if_neg (Int32.not_lt.mpr q)]
      · rw [if_neg q, if_pos (Int32.not_le.mp q)]
theorem z_mb (h : r_T M K n N B L) (d g : Int32) : k_mb K d g = if f_has d (M 7 0 0 5) 8 = 0 then 1 else if f_bw g 1 9999 = 0 then 2 else if f_da M 0 d.toNatClampNeg g ≤ 5000 then 0 else 3 := zc_mb (z_C h) d g
theorem z_melt (h : r_T M K n N B L) : (0 < K 16 0 0 2 ∧ B < 12) ↔ (0 < M 14 0 12 0 ∧ B < 12) := by rw [← (z_C h).1.2.2.2.1.1]
theorem z_dp (h : r_C M 0 (K 16 0 0) N B) {d k : Nat} (hd : d < N) (hk : k < 9) : f_dp M 0 d k = k_dp K d k := by
  unfold f_dp k_dp f_loss k_lost
  rw [h.2.1.1 d hd 4 (by decide), h.2.1.1 d hd 5 (by decide), h.2.1.1 d hd 6 (by decide), p_worth h.1]
  by_cases e : k = 8
  · rw [if_pos e, if_neg (by omega : ¬ k < 8)]
  · rw [if_neg e, if_pos (by omega : k < 8)]
    exact h.2.1.1 d hd k (by omega)
theorem z_loss (h : r_C M 0 (K 16 0 0) N B) {d : Nat} (hd : d < N) : f_loss M 0 d = k_lost K d := by
  unfold f_loss k_lost
  rw [h.2.1.1 d hd 4 (by decide), h.2.1.1 d hd 5 (by decide), h.2.1.1 d hd 6 (by decide), p_worth h.1]
theorem z_cpp (h : r_C M 0 (K 16 0 0) N B) {c k : Nat} (hc : c < 10) (hk : k < 5) : f_cpp M 0 c k = K 16 0 0 (77 + 6 * c + k) := by
  obtain ⟨l0, l1, l2, l4, l5, -⟩ := h.2.2.1 c hc
  have hk : k = 0 ∨ k = 1 ∨ k = 2 ∨ k = 3 ∨ k = 4 := by omega
  rcases hk with rfl | rfl | rfl | rfl | rfl
  · exact l0
  · exact l1
  · exact l2
  · exact l4
  · exact l5
theorem z_bw (h : r_C M 0 (K 16 0 0) N B) {b : Nat} (hb : b < B) : 0 < M 14 0 b 0 := by
  obtain ⟨g, p, w, l, h1, h2, h3, h4, h5⟩ := h.2.2.2.2.2.2.2
  obtain ⟨k1, k2, k3⟩ := h2 b hb
  rw [k1]
  exact (nI_lt (by omega) (by omega) : nI 0 < nI (w b))
theorem z_W (h : r_C M 0 (K 16 0 0) N B) : ∀ b, b < B → ¬ K 16 0 0 (137 + 3 * b + 0) = 0 := fun b hb q => by
  have hB := h.1.2.1.1
  have h1 := z_bw h hb
  rw [(h.2.2.2.1 b (by omega)).1, q] at h1
  exact absurd h1 (by decide)
theorem z_bp (h : r_C M 0 (K 16 0 0) N B) {b k : Nat} (hb : b < B) (hk : k < 5) : f_bp M 0 b k = k_bp K b k := by
  have hB := h.1.2.1.1
  obtain ⟨b0, b1, b2⟩ := h.2.2.2.1 b (by omega)
  have hw := z_bw h hb
  have hk : k = 0 ∨ k = 1 ∨ k = 2 ∨ k = 3 ∨ k = 4 := by omega
  rcases hk with rfl | rfl | rfl | rfl | rfl
  · exact b0
  · exact b1
  · show (if 0 < M 14 0 b 0 then 1000 * M 14 0 b 1 / M 14 0 b 0 else 0) = 1000 * K 16 0 0 (137 + 3 * b + 1) / K 16 0 0 (137 + 3 * b + 0)
    rw [if_pos hw, b0, b1]
  · exact b2
  · show f_worth M 0 (M 14 0 b 1) = k_worth K (K 16 0 0 (137 + 3 * b + 1))
    rw [p_worth h.1, b1]
theorem z_tot (h : r_C M 0 (K 16 0 0) N B) {k : Nat} (hk : k < 8) : ∀ n, n ≤ N → f_tot M 0 k n = k_tot K k n
  | 0, _ => rfl
  | n + 1, hn => by
    show f_tot M 0 k n + M 12 0 n k = k_tot K k n + K 16 0 0 (13 + 8 * n + k)
    rw [z_tot h hk n (by omega), h.2.1.1 n (by omega) k hk]
theorem z_fib (h : r_C M 0 (K 16 0 0) N B) : ∀ n, n ≤ B → f_fib M 0 n = k_fib K n
  | 0, _ => h.1.2.2.2.1.2.1
  | n + 1, hn => by
    have hB := h.1.2.1.1
    show f_fib M 0 n + M 14 0 n 1 = k_fib K n + K 16 0 0 (137 + 3 * n + 1)
    rw [z_fib h n (by omega), (h.2.2.2.1 n (by omega)).2.1]
theorem z_num (h : r_C M 0 (K 16 0 0) N B) (n : Nat) {k : Nat} (hk : k < 17) : (if k = 16 then nI n else f_num M 0 N B k) = k_num K n N B k := by
  obtain ⟨⟨hA1, hA2, hA3⟩, ⟨hB1, hB2, hB3⟩, ⟨h0, h8, h9⟩, ⟨w0, w1, w2⟩, hs⟩ := h.1
  have tt := fun k (hk : k < 8) => z_tot h hk N (Nat.le_refl _)
  have hk : k = 0 ∨ k = 1 ∨ k = 2 ∨ k = 3 ∨ k = 4 ∨ k = 5 ∨ k = 6 ∨ k = 7 ∨ k = 8 ∨ k = 9 ∨ k = 10 ∨ k = 11 ∨ k = 12 ∨ k = 13 ∨ k = 14 ∨ k = 15 ∨ k = 16 := by omega
  rcases hk with rfl | rfl | rfl | rfl | rfl | rfl | rfl | rfl | rfl | rfl | rfl | rfl | rfl | rfl | rfl | rfl | rfl
  · exact h0
  · exact hA2.trans hA3.symm
  · exact z_taken h
  · exact w0
  · exact w1
  · exact hB2.trans hB3.symm
  · show M 7 0 0 8 + 50 = K 16 0 0 6 + 50
    rw [h8]
  · exact h9
  · exact tt 0 (by decide)
  · exact tt 1 (by decide)
  · exact tt 5 (by decide)
  · exact tt 6 (by decide)
  · exact tt 7 (by decide)
  · exact z_fib h B (Nat.le_refl _)
  · exact tt 4 (by decide)
  · show f_tot M 0 0 N + f_tot M 0 7 N - f_tot M 0 1 N = k_tot K 0 N + k_tot K 7 N - k_tot K 1 N
    rw [tt 0 (by decide), tt 7 (by decide), tt 1 (by decide)]
  · rfl
theorem z_iw (h : r_C M 0 (K 16 0 0) N B) (g : Int32) {k : Nat} (hk : k < 3) : f_iw M g k = k_iw K g k := by
  have hk : k = 0 ∨ k = 1 ∨ k = 2 := by omega
  rcases hk with rfl | rfl | rfl
  · exact p_pay h.1 g
  · exact p_fee h.1 g
  · exact p_told h.1 g
theorem z_wo (h : r_C M 0 (K 16 0 0) N B) : ∀ n, n ≤ N → (f_wo M 0 n).1 = k_wi1 (k_wo K n) ∧ (f_wo M 0 n).2 = (match k_wo K n with | none => 0 | some w => k_lost K w)
  | 0, _ => ⟨rfl, rfl⟩
  | n + 1, hn => by
    obtain ⟨h1, h2⟩ := z_wo h n (by omega)
    have hl := z_loss h (d := n) (by omega)
    have e : f_wo M 0 (n + 1) = if (f_wo M 0 n).2 < f_loss M 0 n then (nI n, f_loss M 0 n) else f_wo M 0 n := rfl
    have ek : k_wo K (n + 1) = match k_wo K n with
      | none => if 0 < k_lost K n then some n else none
      | some w => if k_lost K w < k_lost K n then some n else some w := rfl
    rw [e, ek]
    cases hw : k_wo K n with
    | none =>
      rw [hw] at h1 h2
      dsimp only at h2 ⊢
      rw [h2, hl]
      by_cases q : 0 < k_lost K n
      · rw [if_pos q, if_pos q]
        exact ⟨rfl, rfl⟩
      · rw [if_neg q, if_neg q]
        exact ⟨h1, h2⟩
    | some w =>
      rw [hw] at h1 h2
      dsimp only at h2 ⊢
      rw [h2, hl]
      by_cases q : k_lost K w < k_lost K n
      · rw [if_pos q, if_pos q]
        exact ⟨rfl, rfl⟩
      · rw [if_neg q, if_neg q]
        exact ⟨h1, h2⟩
theorem z_lf (h : r_C M 0 (K 16 0 0) N B) : ∀ n, n ≤ 10 → f_lf M 0 n = k_lf K n ∧ (f_lf M 0 n = -1 ∨ 0 ≤ f_lf M 0 n)
  | 0, _ => ⟨rfl, Or.inl rfl⟩
  | n + 1, hn => by
    obtain ⟨h1, h2⟩ := z_lf h n (by omega)
    obtain ⟨l0, l1, -⟩ := h.2.2.1 n (by omega)
    have hN := h.1.1.1
    have hF := h.2.2.2.2.2.2.1 n (by omega)
    have hF0 : 0 ≤ M 13 0 n 0 := Int32.le_trans (by decide) hF.1
    have em : f_lf M 0 n = -1 ↔ k_lf K n < 0 := by
      rw [← h1]
      rcases h2 with q | q
      · rw [q]
        decide
      · exact ⟨fun z => by rw [z]; decide, fun z => absurd q (Int32.not_le.mpr z)⟩
    show (if M 13 0 n 1 = -1 then f_lf M 0 n else if f_lf M 0 n = -1 ∨ M 13 0 n 0 < f_lf M 0 n then M 13 0 n 0 else f_lf M 0 n) = (if K 16 0 0 (77 + 6 * n + 1) < 0 then k_lf K n else if k_lf K n < 0 ∨ K 16 0 0 (77 + 6 * n + 0) < k_lf K n then K 16 0 0 (77 + 6 * n + 0) else k_lf K n) ∧
      ((if M 13 0 n 1 = -1 then f_lf M 0 n else if f_lf M 0 n = -1 ∨ M 13 0 n 0 < f_lf M 0 n then M 13 0 n 0 else f_lf M 0 n) = -1 ∨ 0 ≤ (if M 13 0 n 1 = -1 then f_lf M 0 n else if f_lf M 0 n = -1 ∨ M 13 0 n 0 < f_lf M 0 n then M 13 0 n 0 else f_lf M 0 n))
    rw [← l1, ← l0]
    rcases h.2.2.2.2.1.1 n (by omega) with q | ⟨d, d1, d2⟩
    · rw [q, if_pos rfl, if_pos (by decide)]
      exact ⟨h1, h2⟩
    · have c1 : ¬ M 13 0 n 1 = -1 := by rw [d2]; exact nI_m1 (by omega)
      have c2 : ¬ M 13 0 n 1 < 0 := by rw [d2]; exact nI_pos (by omega)
      rw [if_neg c1, if_neg c2, ← h1]
      rw [← h1] at em
      by_cases c3 : f_lf M 0 n = -1 ∨ M 13 0 n 0 < f_lf M 0 n
      · rw [if_pos c3, if_pos (c3.imp em.mp id)]
        exact ⟨rfl, Or.inr hF0⟩
      · rw [if_neg c3, if_neg (fun z => c3 (z.imp em.mpr id))]
        exact ⟨rfl, h2⟩
theorem z_sf (h : r_C M 0 (K 16 0 0) N B) : f_sf M 0 = k_sf K := by
  obtain ⟨h1, h2⟩ := z_lf h 10 (Nat.le_refl _)
  unfold f_sf k_sf
  rw [← h1, ← p_worth h.1, q_safe (r_us h.2.2.2.2.2.1) (fun g f => (p_price h.1 g f).symm)]
  rcases h2 with q | q
  · rw [q, if_pos rfl, if_pos (by decide)]
  · rw [if_neg (fun z => by rw [z] at q; exact absurd q (by decide)), if_neg (Int32.not_lt.mpr q)]
end SIM
