/-! A DAY IS LIVED: the text as a whole, what live() does of it, and lives. -/
/-- after k orders the text has e signs; the j-th order begins at as j -/
def y_T (M0 M : m_Mem) (y k e : Nat) (as : Nat → Nat) (n N : Nat) : Prop :=
  (M 5 0 0 1 = nI e ∧ (k = 0 → e = 0) ∧ (0 < k → e + 1 = as k) ∧ as 0 = 0 ∧ as k ≤ 7 * k) ∧
  (∀ j, j < k → as (j + 1) ≤ e + 1 ∧ y_O (M 6 0 0) (as j) (as (j + 1) - 1) (v_kd (y / (1 + 2 * j))) (y / (1 + 2 * j) % 8) (v_og (y / (1 + 2 * j))) ∧ f_stt (M 6 0 0) (as j) = 0 ∧ (0 < j → M 6 0 0 (as j - 1) = 59)) ∧
  (y_K M = (v_st y (y_K M0) k).2.2 ∧ y_f (y_K M) ∧ ∃ C B, y_W C (y_K M) n N B) ∧
  (∀ x b c i, (x < 16 ∨ 19 < x) → x ≠ 6 → ¬ (x = 5 ∧ i = 1) → M x b c i = M0 x b c i) ∧ (∀ i, i < 60 → m_nok 2 (M 6 0 0 i) = true)
section LIVES
variable {M M0 K C Q : m_Mem} {n N B : Nat}
/-- a turn's head -/
theorem l_tA (y k m e : Nat) (hy : y < 10000000) (hk : k < m) (hm : m ≤ 7) (he : e < 60) (h5 : M 5 0 0 1 = nI e) (x8 g9 : Int32) (w1 w2 w3 w4 w5 : Option Value) :
    m_E 110 32 [some (.ref (m_lc 1 0 0)), some (.ref (m_lc 16 0 0)), some (.ref (m_lc 17 0 0)), some (.ref (m_lc 18 0 0)), some (.ref (m_lc 19 0 0)), some (.int (nI y)), some (.int 1), some (.int (nI m)), some (.int x8), some (.int g9), some (.int (nI k)), w1, w2, w3, w4, w5] [] M =
    m_E 110 96 [some (.ref (m_lc 1 0 0)), some (.ref (m_lc 16 0 0)), some (.ref (m_lc 17 0 0)), some (.ref (m_lc 18 0 0)), some (.ref (m_lc 19 0 0)), some (.int (nI y)), some (.int 1), some (.int (nI m)), some (.int x8), some (.int g9), some (.int (nI k)), some (.int (nI (y / (1 + 2 * k)))), some (.int (nI (y / (1 + 2 * k) % 8))), some (.int (nI (y / (1 + 2 * k) / 8 % 8))), some (.int 0), w5] [] (if k = 0 then M else y_ap M e (nI 59)) := by
  have hle : ¬ nI m ≤ nI k := nI_ge hk (by omega)
  have e2 : (2 : Int32) * nI k = nI (2 * k) := nI_mul 2 k
  have e1 : (1 : Int32) + nI (2 * k) = nI (1 + 2 * k) := nI_add 1 _
  have ne := nI_ne0 (n := 1 + 2 * k) (by omega) (by omega)
  have hv : y / (1 + 2 * k) < 10000000 := Nat.lt_of_le_of_lt (Nat.div_le_self y _) hy
  have qv : nI y / nI (1 + 2 * k) = nI (y / (1 + 2 * k)) := nI_quo (by omega) (by omega) (by omega)
  generalize y / (1 + 2 * k) = v at hv qv ⊢
  have q8 : nI v / 8 = nI (v / 8) := nI_quo (b := 8) (by omega) (by decide) (by decide)
  have r8 : nI v - nI (v / 8) * 8 = nI (v % 8) := by
    rw [← q8]
    exact nI_remd (b := 8) (by omega) (by decide) (by decide)
  have r8b : nI (v / 8) - nI (v / 8) / 8 * 8 = nI (v / 8 % 8) := nI_remd (b := 8) (by omega) (by decide) (by decide)
  have la : m_cl 93 [.ref (m_lc 1 0 0), .int 59] M = some (.inl (some (.int (nI (e + 1)))), y_ap M e (nI 59)) := l_append e he h5 59 (by decide)
  have l0 : ¬ nI (e + 1) ≤ 0 := nI_nle (by omega) (by omega)
  rw [eL_lives_32]
  simp only [eL_lives_34, eL_lives_36, eL_lives_39, eL_lives_41, eL_lives_44, eL_lives_46, eL_lives_47, eL_lives_48, eL_lives_50, eL_lives_51, eL_lives_52, eL_lives_53, eL_lives_55, eL_lives_57, eL_lives_59, eL_lives_60, eL_lives_62, eL_lives_64, eL_lives_66, eL_lives_67, eL_lives_69, eL_lives_70, eL_lives_72, eL_lives_73, hle, e2, e1, ne, qv, q8, r8, r8b, m_kill, (by decide : ¬ (1 : Int32) = 0), (by decide : ¬ (8 : Int32) = 0), not_false_eq_true, if_false]
  by_cases h0 : k = 0
  · have k0 : nI k = 0 := by rw [h0]; rfl
    rw [if_pos h0]
    simp only [eL_lives_75, eL_lives_77]
    rw [if_pos k0]
    simp only [eL_lives_89, eL_lives_90, eL_lives_93, eL_lives_94, m_kill]
  · have k0 : ¬ nI k = 0 := nI_ne0 (by omega) (by omega)
    rw [if_neg h0]
    simp only [eL_lives_75, eL_lives_77, eL_lives_80, eL_lives_81, eL_lives_83, eL_lives_86, eL_lives_89, eL_lives_90, eL_lives_93, eL_lives_94, k0, la, l0, m_cE_i, m_kill, if_false]
theorem l_turn {y k m e : Nat} {as : Nat → Nat} (hT : y_T M0 M y k e as n N) (hy : y < 10000000) (hk : k < m) (hm : m ≤ 7) (w1 w2 w3 w4 w5 : Option Value) : ∃ M' e' as' w1' w2' w3' w4' w5',
    m_E 110 32 [some (.ref (m_lc 1 0 0)), some (.ref (m_lc 16 0 0)), some (.ref (m_lc 17 0 0)), some (.ref (m_lc 18 0 0)), some (.ref (m_lc 19 0 0)), some (.int (nI y)), some (.int 1), some (.int (nI m)), some (.int (nI (v_st y (y_K M0) k).2.1)), some (.int (nI (v_st y (y_K M0) k).1)), some (.int (nI k)), w1, w2, w3, w4, w5] [] M =
    m_E 110 32 [some (.ref (m_lc 1 0 0)), some (.ref (m_lc 16 0 0)), some (.ref (m_lc 17 0 0)), some (.ref (m_lc 18 0 0)), some (.ref (m_lc 19 0 0)), some (.int (nI y)), some (.int 1), some (.int (nI m)), some (.int (nI (v_st y (y_K M0) (k + 1)).2.1)), some (.int (nI (v_st y (y_K M0) (k + 1)).1)), some (.int (nI (k + 1))), w1', w2', w3', w4', w5'] [] M' ∧ y_T M0 M' y (k + 1) e' as' n N := by
  obtain ⟨⟨t1, t2, t3, t4, t5⟩, t6, ⟨t7, t8, C, B, t9⟩, t10, t11⟩ := hT
  have he : e ≤ 42 := by
    by_cases h0 : k = 0
    · have := t2 h0
      omega
    · have := t3 (by omega)
      omega
  -- the place where the order begins
  have hM1 : ∃ a, (if k = 0 then M else y_ap M e (nI 59)) 5 0 0 1 = nI a ∧ a = as k ∧ y_G M (if k = 0 then M else y_ap M e (nI 59)) e a ∧ f_stt ((if k = 0 then M else y_ap M e (nI 59)) 6 0 0) a = 0 ∧ (0 < k → (if k = 0 then M else y_ap M e (nI 59)) 6 0 0 (a - 1) = 59) := by
    by_cases h0 : k = 0
    · subst h0
      have e0 := t2 rfl
      subst e0
      rw [if_pos rfl]
      exact ⟨0, t1, t4.symm, y_G0 t1 (by omega), rfl, fun q => absurd q (by decide)⟩
    · rw [if_neg h0]
      have e1 := t3 (by omega)
      refine ⟨e + 1, y_ap_1, e1, y_G1 (y_G0 t1 (by omega)) (by omega) (by decide), ?_, fun _ => by rw [Nat.add_sub_cancel]; exact y_ap_i⟩
      obtain ⟨j, rfl⟩ : ∃ j, k = j + 1 := ⟨k - 1, by omega⟩
      obtain ⟨-, o1, o2, -⟩ := t6 j (by omega)
      rw [← e1, Nat.add_sub_cancel] at o1
      have oe := y_O_e o1
      have cg : ∀ i, i < e → y_ap M e (nI 59) 6 0 0 i = M 6 0 0 i := fun i hi => y_ap_t (by omega)
      have o3 := y_O_cg cg o1
      have o4 : f_stt (y_ap M e (nI 59) 6 0 0) (as j) = 0 := by
        rw [t_cg (L := e) cg (as j) (by omega)]
        exact o2
      exact (y_O_f o3 o4).2 y_ap_i
  obtain ⟨a, a1, a2, a3, a4, a5⟩ := hM1
  have hA := l_tA y k m e hy hk hm (by omega) t1 (nI (v_st y (y_K M0) k).2.1) (nI (v_st y (y_K M0) k).1) w1 w2 w3 w4 w5
  generalize (if k = 0 then M else y_ap M e (nI 59)) = M1 at a1 a3 a4 a5 hA
  have hv : y / (1 + 2 * k) < 10000000 := Nat.lt_of_le_of_lt (Nat.div_le_self y _) hy
  have hK1 : y_K M1 = y_K M := y_G_K a3
  have hg : (v_st y (y_K M0) k).1 = 0 ∨ (v_st y (y_K M0) k).1 = 1 := by
    rcases v_st_1 y (y_K M0) k with ⟨h, -⟩ | h
    · exact Or.inr h
    · exact Or.inl h
  obtain ⟨t, M3, w5', hB, e3, b1, b2, b3, b4, b5, b6, b7, b8, b9⟩ := l_tB (M := M1) t9 hK1 t8 (y / (1 + 2 * k)) hv a (v_st y (y_K M0) k).1 (by omega) a1 hg (nI y) (nI m) (nI (v_st y (y_K M0) k).2.1) (nI k) 0 w5
  have hCC := l_tC (M := M3) (v_st y (y_K M0) k).2.1 (v_st y (y_K M0) k).1 k hg t (nI y) 1 (nI m) (nI (y / (1 + 2 * k))) (nI (y / (1 + 2 * k) % 8)) (nI (y / (1 + 2 * k) / 8 % 8)) w5'
  have oe := y_O_e b4
  -- the state behind
  have hst : v_st y (y_K M0) (k + 1) = ((if (v_st y (y_K M0) k).1 = 1 ∧ 0 ≤ t then 1 else 0), (v_st y (y_K M0) k).2.1 + (if (v_st y (y_K M0) k).1 = 1 ∧ 0 ≤ t then 1 else 0), y_K M3) := by
    rw [v_st]
    rcases v_st_1 y (y_K M0) k with ⟨h1, h2⟩ | h0
    · rw [if_pos h1, ← t7]
      rcases b7 h1 with ⟨q1, q2, q3⟩ | ⟨q1, q2, q3⟩
      · rw [if_pos q2, if_pos ⟨h1, q1⟩, h2, q3]
      · rw [if_neg (by rw [q2]; decide), if_neg (fun z => Int32.not_le.mpr q1 z.2), h2, q3, Nat.add_zero]
    · rw [if_neg (by rw [h0]; decide), if_neg (fun z => by rw [h0] at z; exact absurd z.1 (by decide)), b8 h0, t7, Nat.add_zero, ← h0]
  refine ⟨M3, e3, fun j => if j = k + 1 then e3 + 1 else as j, some (.int (nI (y / (1 + 2 * k)))), some (.int (nI (y / (1 + 2 * k) % 8))), some (.int (nI (y / (1 + 2 * k) / 8 % 8))), some (.int t), w5', ?_, ⟨⟨b1, fun q => absurd q (by omega), fun _ => (if_pos rfl).symm, ?_, ?_⟩, ?_, ⟨?_, b9, ?_⟩, ?_, ?_⟩⟩
  · rw [hst]
    exact hA.trans (hB.trans hCC)
  · show (if 0 = k + 1 then e3 + 1 else as 0) = 0
    rw [if_neg (by omega)]
    exact t4
  · show (if k + 1 = k + 1 then e3 + 1 else as (k + 1)) ≤ 7 * (k + 1)
    rw [if_pos rfl]
    omega
  · intro j hj
    show (if j + 1 = k + 1 then e3 + 1 else as (j + 1)) ≤ e3 + 1 ∧ y_O (M3 6 0 0) (if j = k + 1 then e3 + 1 else as j) ((if j + 1 = k + 1 then e3 + 1 else as (j + 1)) - 1) _ _ _ ∧ f_stt (M3 6 0 0) (if j = k + 1 then e3 + 1 else as j) = 0 ∧ (0 < j → M3 6 0 0 ((if j = k + 1 then e3 + 1 else as j) - 1) = 59)
    rw [if_neg (show ¬ j = k + 1 by omega)]
    by_cases hjk : j = k
    · subst hjk
      rw [if_pos rfl, Nat.add_sub_cancel, ← a2]
      refine ⟨Nat.le_refl _, b4, ?_, fun q => ?_⟩
      · rw [t_cg (L := a) b3 a (Nat.le_refl _)]
        exact a4
      · have := a5 q
        have ha0 : 0 < a := by
          have := t3 q
          omega
        rw [b3 _ (by omega)]
        exact this
    · rw [if_neg (show ¬ j + 1 = k + 1 by omega)]
      obtain ⟨o0, o1, o2, o3⟩ := t6 j (by omega)
      have oj := y_O_e o1
      have hea : e ≤ a := a3.2.1
      have cg : ∀ i, i < e → M3 6 0 0 i = M 6 0 0 i := fun i hi => by rw [b3 i (by omega), a3.2.2.2.1 i hi]
      refine ⟨by omega, y_O_cg (fun i hi => cg i (by omega)) o1, ?_, fun q => ?_⟩
      · rw [t_cg (L := e) cg (as j) (by omega)]
        exact o2
      · rw [cg _ (by omega)]
        exact o3 q
  · rw [hst]
  · rcases v_st_1 y (y_K M0) k with ⟨h1, h2⟩ | h0
    · rcases b7 h1 with ⟨q1, q2, q3⟩ | ⟨q1, q2, q3⟩
      · rcases v_r_c t9 (y / (1 + 2 * k)) with ⟨-, C', B', hW⟩ | ⟨z, -⟩
        · exact ⟨C', B', by rw [q3]; exact hW⟩
        · rw [z] at q2
          exact absurd q2 (by decide)
      · exact ⟨C, B, by rw [q3]; exact t9⟩
    · exact ⟨C, B, by rw [b8 h0]; exact t9⟩
  · intro x b c i z1 z2 z3
    rw [b5 _ _ _ _ z1 z2 z3, a3.2.2.2.2.1 _ _ _ _ z2 z3]
    exact t10 _ _ _ _ z1 z2 z3
  · exact b6 (a3.2.2.2.2.2 t11)
theorem l_typed {y m : Nat} (hy : y < 10000000) (hm : m ≤ 7) : ∀ (q k : Nat), k + q = m → ∀ (M : m_Mem) (e : Nat) (as : Nat → Nat) (w1 w2 w3 w4 w5 : Option Value), y_T M0 M y k e as n N → ∃ M' e' as' w1' w2' w3' w4' w5',
    m_E 110 32 [some (.ref (m_lc 1 0 0)), some (.ref (m_lc 16 0 0)), some (.ref (m_lc 17 0 0)), some (.ref (m_lc 18 0 0)), some (.ref (m_lc 19 0 0)), some (.int (nI y)), some (.int 1), some (.int (nI m)), some (.int (nI (v_st y (y_K M0) k).2.1)), some (.int (nI (v_st y (y_K M0) k).1)), some (.int (nI k)), w1, w2, w3, w4, w5] [] M =
    m_E 110 401 [some (.ref (m_lc 1 0 0)), some (.ref (m_lc 16 0 0)), some (.ref (m_lc 17 0 0)), some (.ref (m_lc 18 0 0)), some (.ref (m_lc 19 0 0)), some (.int (nI y)), some (.int 1), some (.int (nI m)), some (.int (nI (v_st y (y_K M0) m).2.1)), some (.int (nI (v_st y (y_K M0) m).1)), some (.int (nI m)), w1', w2', w3', w4', w5'] [] M' ∧ y_T M0 M' y m e' as' n N := by
  intro q
  induction q with
  | zero =>
    intro k hk M e as w1 w2 w3 w4 w5 hT
    have e1 : k = m := by omega
    subst e1
    have hle : nI k ≤ nI k := nI_le (Nat.le_refl _) (by omega)
    refine ⟨M, e, as, w1, w2, w3, w4, w5, ?_, hT⟩
    simp only [eL_lives_32, eL_lives_34, eL_lives_36, hle, if_true]
  | succ q ih =>
    intro k hk M e as w1 w2 w3 w4 w5 hT
    obtain ⟨M', e', as', u1, u2, u3, u4, u5, h1, h2⟩ := l_turn hT hy (show k < m by omega) hm w1 w2 w3 w4 w5
    obtain ⟨M'', e'', as'', v1, v2, v3, v4, v5, h3, h4⟩ := ih (k + 1) (by omega) M' e' as' u1 u2 u3 u4 u5 h2
    exact ⟨M'', e'', as'', v1, v2, v3, v4, v5, h1.trans h3, h4⟩
/-- the orders from the i-th on, as the class does them -/
theorem l_liv {y m L : Nat} {as : Nat → Nat} {t : Nat → Int32} (hm : m ≤ 7) (hL : L ≤ 60) (hLm : L + 1 = as m) (hO : ∀ j, j < m → as (j + 1) ≤ L + 1 ∧ y_O t (as j) (as (j + 1) - 1) (v_kd (y / (1 + 2 * j))) (y / (1 + 2 * j) % 8) (v_og (y / (1 + 2 * j))) ∧ (0 < j → t (as j - 1) = 59)) :
    ∀ (q i : Nat), i + q = m → ∀ (Q : m_Mem) (B : Nat), (v_st y K i).1 = 1 → y_W Q (v_st y K i).2.2 n N B → Q 5 0 0 1 = nI L → (∀ i, i < 60 → m_nok 2 (Q 6 0 0 i) = true) → Q 6 0 0 = t → Q 5 0 0 2 = nI (as i) →
    ∃ Q' B', m_E 66 33 [some (.ref (m_lc 1 0 0)), some (.int (nI i))] [] Q = m_E 66 83 [some (.ref (m_lc 1 0 0)), some (.int (nI (v_st y K m).2.1))] [] Q' ∧ y_W Q' (v_st y K m).2.2 n N B' ∧ (∀ a b c k, (b ≠ 0 ∨ a < 7 ∨ 15 ≤ a) → ¬ (a = 5 ∧ 2 ≤ k) → Q' a b c k = Q a b c k) := by
  intro q
  induction q with
  | zero =>
    intro i hi Q B h1 hW hl hCh ht h2
    have e : i = m := by omega
    subst e
    have h60 : ¬ (60 : Int32) ≤ nI i := nI_ge (b := 60) (by omega) (by decide)
    have ro := s_ro_0 hL hl (as i) (by omega) (by omega) h2
    have hd : (v_st y K i).2.1 = i := by
      rcases v_st_1 y K i with ⟨-, h⟩ | h
      · exact h
      · rw [h] at h1
        exact absurd h1 (by decide)
    refine ⟨Q, B, ?_, hW, fun _ _ _ _ _ _ => rfl⟩
    rw [hd]
    simp only [e5_live_33, e5_live_34, e5_live_36, e5_live_39, e5_live_40, e5_live_43, e5_live_46, m_k1d, h60, ro, m_cE_i, m_cE_v, m_cE_ite, m_kill, if_true, if_false]
  | succ q ih =>
    intro i hi Q B h1 hW hl hCh ht h2
    have h60 : ¬ (60 : Int32) ≤ nI i := nI_ge (b := 60) (by omega) (by decide)
    have hd : (v_st y K i).2.1 = i := by
      rcases v_st_1 y K i with ⟨-, h⟩ | h
      · exact h
      · rw [h] at h1
        exact absurd h1 (by decide)
    obtain ⟨o0, o1, o3⟩ := hO i (by omega)
    have oe := y_O_e o1
    have h59 : as (i + 1) - 1 < L → t (as (i + 1) - 1) = 59 := fun z => by
      by_cases hq : i + 1 = m
      · rw [hq] at z
        omega
      · exact (hO (i + 1) (by omega)).2.2 (by omega)
    obtain ⟨r1, r2, r3⟩ := y_O_read o1 (show as (i + 1) - 1 ≤ L by omega) h59
    have ro := s_ro hL hl hCh (as i) (by omega) h2
    have eR : c_R Q L (as i) = c_S Q (nI (as (i + 1))) (nI (v_kd (y / (1 + 2 * i)))) (c_d t L (as i)) (c_n t L (as i)).2 := by
      unfold c_R
      rw [ht, r1, r2, Nat.sub_add_cancel (by omega)]
    rw [eR] at ro
    generalize hv : y / (1 + 2 * i) = v at o1 r1 r3 eR ro
    have hnc : m_nc (nI (v_kd v)) = nI (v_kd v) := by
      rcases v_kd_c v with ⟨z, -⟩ | ⟨z, -⟩ | ⟨z, -⟩ | ⟨z, -⟩ | ⟨z, -⟩ <;> rw [z] <;> decide
    generalize hM1 : c_S Q (nI (as (i + 1))) (nI (v_kd v)) (c_d t L (as i)) (c_n t L (as i)).2 = M1 at ro
    have m1o : ∀ a b c k, ¬ (a = 5 ∧ 2 ≤ k) → M1 a b c k = Q a b c k := fun a b c k h => by
      rw [← hM1, c_S_at, if_neg (by omega), if_neg (by omega), if_neg (by omega), if_neg (by omega)]
    have f3 : M1 5 0 0 3 = nI (v_kd v) := by rw [← hM1, c_S_3]
    have f4 : M1 5 0 0 4 = c_d t L (as i) := by rw [← hM1, c_S_4]
    have f5 : M1 5 0 0 5 = (c_n t L (as i)).2 := by rw [← hM1, c_S_5]
    have f2 : M1 5 0 0 2 = nI (as (i + 1)) := by rw [← hM1, c_S_2]
    have hW1 : y_W M1 (v_st y K i).2.2 n N B := y_Wcg hW (fun a b c k z1 z2 => m1o _ _ _ _ (by omega)) (fun _ _ => rfl)
    obtain ⟨x, M2, fo, kx, hx⟩ := d_all hW1 v (c_d t L (as i)) (c_n t L (as i)).2 r3
    have er : k_do (v_st y K i).2.2 B (nI (v_kd v)) (nI (v % 8)) (nI (v_og v)) = v_r (v_st y K i).2.2 v := by
      unfold v_r
      rw [v_B_e hW]
    rw [er] at kx hx
    have es : v_st y K (i + 1) = if (v_r (v_st y K i).2.2 v).1 = 1 then (1, i + 1, (v_r (v_st y K i).2.2 v).2) else (0, i, (v_st y K i).2.2) := by
      rw [v_st, if_pos h1, hv]
    rcases hx with ⟨rfl, ⟨B2, hW2⟩, fM⟩ | ⟨rfl, rfl, fK⟩
    · rw [if_pos kx] at es
      have g1 : ∀ a b c k, (b ≠ 0 ∨ a < 7 ∨ 15 ≤ a) → ¬ (a = 5 ∧ 2 ≤ k) → M2 a b c k = Q a b c k := fun a b c k z1 z2 => by rw [fM _ _ _ _ z1, m1o _ _ _ _ z2]
      obtain ⟨Q', B', l1, l2, l3⟩ := ih (i + 1) (by omega) M2 B2 (by rw [es]) (by rw [es]; exact hW2) (by rw [g1 _ _ _ _ (by omega) (by omega)]; exact hl) (fun i hi => by rw [g1 _ _ _ _ (by omega) (by omega)]; exact hCh i hi)
        (by rw [← ht]; funext j; exact g1 _ _ _ _ (by omega) (by omega)) (by rw [fM _ _ _ _ (by omega)]; exact f2)
      refine ⟨Q', B', ?_, l2, fun a b c k z1 z2 => by rw [l3 _ _ _ _ z1 z2, g1 _ _ _ _ z1 z2]⟩
      rw [← l1]
      rw [e5_live_33]
      simp only [e5_live_34, e5_live_36, e5_live_39, e5_live_40, e5_live_43, e5_live_46, e5_live_49, e5_live_50, e5_live_51, e5_live_54, e5_live_57, e5_live_58, e5_live_61, e5_live_64, e5_live_65, e5_live_68, e5_live_71, e5_live_74, e5_live_77, e5_live_80, m_k1d, m_k5, h60, ro, f3, f4, f5, hnc, fo, nI_1, m_kill, m_cE_i, m_cE_v, m_cE_ite, m_kill, (by decide : ¬ (1 : Int32) = 0), if_true, if_false]
    · rw [if_neg (by rw [kx]; decide)] at es
      have ez : v_st y K m = v_st y K (i + 1) := by
        have := v_st_fz y K (i := i + 1) (by rw [es]) (m - (i + 1))
        rw [show i + 1 + (m - (i + 1)) = m from by omega] at this
        exact this
      refine ⟨M2, B, ?_, by rw [ez, es]; exact hW1, fun a b c k _ z2 => m1o _ _ _ _ z2⟩
      rw [ez, es]
      rw [e5_live_33]
      simp only [e5_live_34, e5_live_36, e5_live_39, e5_live_40, e5_live_43, e5_live_46, e5_live_49, e5_live_50, e5_live_51, e5_live_54, e5_live_57, e5_live_58, e5_live_61, e5_live_64, e5_live_65, e5_live_68, e5_live_71, e5_live_74, m_k1d, m_k5, h60, ro, f3, f4, f5, hnc, fo, m_kill, m_cE_i, m_cE_v, m_cE_ite, m_kill, (by decide : ¬ (1 : Int32) = 0), if_true, if_false]
theorem l_lives {L c : Nat} (h : y_V M L n N B c) {y : Nat} (hy : y < 10000000) : ∃ M2, m_cl 110 [.ref (m_lc 1 0 0), .ref (m_lc 16 0 0), .ref (m_lc 17 0 0), .ref (m_lc 18 0 0), .ref (m_lc 19 0 0), .int (nI y)] M = some (.inl (some (.int 1)), M2) ∧ y_VV M2 L c := by
  obtain ⟨hW, hf, ⟨h5, h6⟩, h28, h27⟩ := h
  have cl := a_clear (M := M)
  have ce : m_set M 5 0 0 1 (0 : Int32) = M := by
    rw [← h5]
    exact m_se
  rw [h5, ce] at cl
  have r7 : nI y - nI y / 7 * 7 = nI (y % 7) := nI_remd (b := 7) (by omega) (by decide) (by decide)
  have e1 : (1 : Int32) + nI (y % 7) = nI (1 + y % 7) := nI_add 1 _
  have hm : 1 + y % 7 ≤ 7 := by
    have := Nat.mod_lt y (show 0 < 7 by decide)
    omega
  have hm0 : 0 < 1 + y % 7 := by omega
  generalize 1 + y % 7 = m at hm hm0 e1
  have hT0 : y_T M M y 0 0 (fun _ => 0) n N := ⟨⟨h5, fun _ => rfl, fun q => absurd q (by decide), rfl, Nat.le_refl _⟩, fun j hj => absurd hj (by omega), ⟨rfl, hf, M, B, hW⟩, fun _ _ _ _ _ _ _ => rfl, h6⟩
  obtain ⟨M1, e, as, w1, w2, w3, w4, w5, hl, ⟨⟨t1, -, t3, t4, t5⟩, t6, ⟨t7, t8, -⟩, t10, t11⟩⟩ := l_typed hy hm m 0 (by omega) M 0 (fun _ => 0) none none none none none hT0
  have hLm := t3 hm0
  have hL : e ≤ 60 := by omega
  -- the class lives it
  have hW1 : y_W M1 (y_K M) n N B := y_Wcg hW (fun a b c k z1 z2 => t10 _ _ _ _ (by omega) (by omega) (by omega)) (fun _ _ => rfl)
  obtain ⟨j, rfl⟩ : ∃ j, m = j + 1 := ⟨m - 1, by omega⟩
  obtain ⟨-, o1, o2, -⟩ := t6 j (by omega)
  rw [← hLm, Nat.add_sub_cancel] at o1
  have c1 := (y_O_f o1 o2).1
  have day := s_day e hL M1 t1 t11
  rw [if_pos c1] at day
  have hS := y_sv hW1
  have so : ∀ a b c k, b < 3 → a ≠ 4 → ¬ (a = 1 ∧ k = 5) → f_sv M1 n a b c k = M1 a b c k := fun a b c k z1 z2 z3 => f_sv_o _ _ _ _ _ _ z1 z2 z3
  obtain ⟨Q', B', l1, l2, l3⟩ := l_liv (K := y_K M) (n := r_n n) (N := N) (y := y) (t := M1 6 0 0) hm hL hLm (fun j hj => ⟨(t6 j hj).1, (t6 j hj).2.1, (t6 j hj).2.2.2⟩) (j + 1) 0 (by omega) (m_set (f_sv M1 n) 5 0 0 2 0) B rfl
    (y_Wcg hS (fun a b c k z1 z2 => m_set_n (by omega)) (fun _ _ => rfl)) (by rw [m_set_n (by omega), so _ _ _ _ (by omega) (by omega) (by omega)]; exact t1) (fun i hi => by rw [m_set_n (by omega), so _ _ _ _ (by omega) (by omega) (by omega)]; exact t11 i hi)
    (by funext i; rw [m_set_n (by omega), so _ _ _ _ (by omega) (by omega) (by omega)]) (by rw [m_set_i, t4]; rfl)
  have lv : m_cl 66 [.ref (m_lc 1 0 0)] M1 = some (.inl (some (.int (nI (v_st y (y_K M) (j + 1)).2.1))), m_set Q' 5 0 0 1 0) := by
    rw [e5_live_en]
    simp only [e5_live_0, e5_live_1, e5_live_4, e5_live_7, e5_live_10, e5_live_20, e5_live_21, e5_live_24, e5_live_25, e5_live_28, e5_live_31, e5_live_32, m_k1d, m_k5, day, a_save (y_fI hW1), s_rfs, m_kill, m_cE_i, m_cE_v, m_cE_ite, m_kill, (by decide : ¬ (1 : Int32) = 0), ne_eq, not_false_eq_true, if_true, if_false]
    refine Eq.trans l1 ?_
    simp only [e5_live_83, e5_live_84, e5_live_87, e5_live_88, e5_live_91, e5_live_92, m_k1d, m_k5, m_kill]
  have ul := u_live lv
  have cl2 := a_clear (M := m_set Q' 5 0 0 1 0)
  rw [m_set_i] at cl2
  have qo : ∀ a b c k, (15 ≤ a ∨ a = 6) → Q' a b c k = M1 a b c k := fun a b c k z => by
    rw [l3 _ _ _ _ (by omega) (by omega), m_set_n (by omega)]
    by_cases h15 : 15 ≤ a
    · exact f_sv_15 h15
    · unfold f_sv
      split
      · rw [m_set_n (by omega), f_cm_n (by omega)]
      · rw [m_set_n (by omega), f_cm_n (by omega), m_set_n (by omega)]
        exact if_neg (by omega)
  have fo : ∀ a b c k, ¬ (a = 5 ∧ k = 1) → m_set (m_set Q' 5 0 0 1 0) 5 0 0 1 0 a b c k = Q' a b c k := fun a b c k z => by rw [m_set_n (by omega), m_set_n (by omega)]
  have hKf : y_K (m_set (m_set Q' 5 0 0 1 0) 5 0 0 1 0) = y_K M1 := y_cg (fun a b c k z1 z2 => by rw [fo _ _ _ _ (by omega), qo _ _ _ _ (by omega)])
  refine ⟨_, ?_, ⟨r_n n, N, B', ?_, by rw [hKf]; exact t8, ⟨m_set_i, fun i hi => ?_⟩, ?_, ?_⟩⟩
  · rw [eL_lives_en]
    simp only [eL_lives_0, eL_lives_1, eL_lives_4, eL_lives_7, eL_lives_8, eL_lives_11, eL_lives_12, eL_lives_14, eL_lives_15, eL_lives_17, eL_lives_19, eL_lives_20, eL_lives_21, eL_lives_23, eL_lives_24, eL_lives_26, eL_lives_27, eL_lives_29, eL_lives_30, cl, r7, e1, m_cE_i, m_kill, (by decide : ¬ (0 : Int32) < 0), (by decide : ¬ (7 : Int32) = 0), not_false_eq_true, if_false]
    refine Eq.trans hl ?_
    simp only [eL_lives_401, eL_lives_403, eL_lives_406, eL_lives_407, eL_lives_410, eL_lives_412, ul, m_cE_i, (by decide : ¬ (1 : Int32) = 0), if_true, if_false]
    simp only [eL_lives_415, eL_lives_416, eL_lives_419, eL_lives_422, eL_lives_423, eL_lives_426, eL_lives_427, cl2, m_cE_i, m_nok11, if_true]
  · rw [hKf, t7]
    exact y_Wcg l2 (fun a b c k z1 z2 => fo _ _ _ _ (by omega)) (fun _ _ => rfl)
  · rw [fo _ _ _ _ (by omega), qo _ _ _ _ (by omega)]
    exact t11 i hi
  · rw [fo _ _ _ _ (by omega), qo _ _ _ _ (by omega), t10 _ _ _ _ (by omega) (by omega) (by omega)]
    exact h28
  · rw [fo _ _ _ _ (by omega), qo _ _ _ _ (by omega), t10 _ _ _ _ (by omega) (by omega) (by omega)]
    exact h27
end LIVES
