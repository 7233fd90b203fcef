/-! CAMP, the end of a day, the numbers, the searches. -/
/-- the owner of a claim -/
def f_ow (M : m_Mem) (j c : Nat) : Nat := (M 13 j c 1).toNatClampNeg
def f_id (M : m_Mem) (j c : Nat) : Int32 := if M 13 j c 3 = 0 then M 13 j c 2 + 1 else 0
def f_e1 (M : m_Mem) (j c : Nat) : m_Mem :=
  if M 13 j c 1 = -1 then M else
    let M1 := m_set (m_set M 13 j c 2 (f_id M j c)) 13 j c 3 0
    if M 11 j 0 3 ≤ f_id M j c then m_set (f_give (m_set M1 12 j (f_ow M j c) 2 (-1)) j c (-1)) 13 j c 5 (M 13 j c 5 + 1) else M1
def f_l1 (M : m_Mem) (j c : Nat) : Int32 := if M 13 j c 1 = -1 then 0 else if M 11 j 0 3 ≤ f_id M j c then 1 else 0
def f_en (M : m_Mem) (j : Nat) : Nat → m_Mem
  | 0 => M
  | n + 1 => f_e1 (f_en M j n) j n
def f_ln (M : m_Mem) (j : Nat) : Nat → Int32
  | 0 => 0
  | n + 1 => f_ln M j n + f_l1 (f_en M j n) j n
theorem f_e1_o (M : m_Mem) (j c : Nat) (a b c' k : Nat) (h : ¬ (a = 13 ∧ c' = c)) (h2 : a ≠ 12) : f_e1 M j c a b c' k = M a b c' k := by
  have e : ∀ (M' : m_Mem) (z : Nat) (v : Int32), m_set M' 13 j c z v a b c' k = M' a b c' k := fun _ _ _ => m_set_n (fun q => h ⟨q.1, q.2.2.1⟩)
  have e2 : ∀ (M' : m_Mem) (y z : Nat) (v : Int32), m_set M' 12 j y z v a b c' k = M' a b c' k := fun _ _ _ _ => m_set_n (fun q => h2 q.1)
  unfold f_e1 f_give
  split
  · rfl
  · split <;> simp only [e, e2]
theorem f_en_o (M : m_Mem) (j : Nat) (a b c' k : Nat) (h2 : a ≠ 12) : ∀ n, (a = 13 → n ≤ c') → f_en M j n a b c' k = M a b c' k
  | 0, _ => rfl
  | n + 1, h => by
    show f_e1 (f_en M j n) j n a b c' k = _
    rw [f_e1_o _ _ _ _ _ _ _ (fun q => by have := h q.1; omega) h2]
    exact f_en_o M j a b c' k h2 n (fun q => by have := h q; omega)
theorem s_end_l (j : Nat) (hj : j < 9) (M : m_Mem) (hB : ∀ c, c < 10 → m_nb (M 13 j c 3) = M 13 j c 3) (hO : ∀ c, c < 10 → M 13 j c 1 = -1 ∨ ∃ d, d < 8 ∧ M 13 j c 1 = nI d ∧ nI d < M 7 j 0 5) : ∀ (i n : Nat) (z : Option Value), n + i = 10 → m_E 22 4 [some (.ref (m_lc 7 j 0)), some (.int (f_ln M j n)), some (.int (nI n)), z] [] (f_en M j n) = some (.inl (some (.int (f_ln M j 10))), m_set (f_en M j 10) 7 j 0 7 (M 7 j 0 7 + 1)) := by
  have h7 := m_d7 hj
  have h9 := m_d9 hj
  have h11 := m_d11 hj
  intro i
  induction i with
  | zero =>
    intro n z hn
    have e : n = 10 := by omega
    subst e
    have e7 : f_en M j 10 7 j 0 7 = M 7 j 0 7 := f_en_o M j 7 j 0 7 (by decide) 10 (fun q => absurd q (by decide))
    simp only [e0_endDay_0, e0_endDay_1, e0_endDay_2, e0_endDay_3, e0_endDay_4, e0_endDay_5, e0_endDay_7, e0_endDay_10, e0_endDay_11, e0_endDay_14, e0_endDay_15, e0_endDay_16, e0_endDay_17, e0_endDay_18, e0_endDay_21, e0_endDay_22, e0_endDay_25, e0_endDay_28, e0_endDay_29, e0_endDay_32, e0_endDay_33, e0_endDay_36, e0_endDay_37, e0_endDay_40, e0_endDay_41, e0_endDay_42, e0_endDay_45, e0_endDay_46, e0_endDay_47, e0_endDay_50, e0_endDay_51, e0_endDay_52, e0_endDay_55, e0_endDay_56, e0_endDay_57, e0_endDay_60, e0_endDay_63, e0_endDay_66, e0_endDay_69, e0_endDay_70, e0_endDay_71, e0_endDay_74, e0_endDay_75, e0_endDay_76, e0_endDay_79, e0_endDay_80, h7, e7, (by decide : (10 : Int32) ≤ nI 10), if_true]
  | succ i ih =>
    intro n z hn
    have hlt : n < 10 := by omega
    have h13 := m_d13 hj hlt
    have hle : ¬ (10 : Int32) ≤ nI n := nI_ge hlt (by decide)
    have e1 : f_en M j n 13 j n 1 = M 13 j n 1 := f_en_o M j 13 j n 1 (by decide) n (fun _ => Nat.le_refl _)
    have e3 : f_en M j n 13 j n 3 = M 13 j n 3 := f_en_o M j 13 j n 3 (by decide) n (fun _ => Nat.le_refl _)
    have e11 : f_en M j n 11 j 0 3 = M 11 j 0 3 := f_en_o M j 11 j 0 3 (by decide) n (fun q => absurd q (by decide))
    have e75 : f_en M j n 7 j 0 5 = M 7 j 0 5 := f_en_o M j 7 j 0 5 (by decide) n (fun q => absurd q (by decide))
    have hb : m_nb (f_en M j n 13 j n 3) = f_en M j n 13 j n 3 := by rw [e3]; exact hB n hlt
    have ih2 := fun z => ih (n + 1) z (by omega)
    rw [e0_endDay_4]
    rcases hO n hlt with ho | ⟨d, hd, ho, hcd⟩
    · have hf : f_en M j (n + 1) = f_en M j n := by
        show f_e1 (f_en M j n) j n = _
        unfold f_e1
        rw [e1, if_pos ho]
      have hl : f_ln M j (n + 1) = f_ln M j n := by
        show f_ln M j n + f_l1 (f_en M j n) j n = _
        unfold f_l1
        rw [e1, if_pos ho, Int32.add_zero]
      rw [hf, hl] at ih2
      simp only [e0_endDay_5, e0_endDay_7, e0_endDay_10, e0_endDay_11, e0_endDay_14, e0_endDay_15, e0_endDay_16, e0_endDay_17, e0_endDay_18, e0_endDay_21, e0_endDay_22, e0_endDay_25, e0_endDay_28, e0_endDay_29, e0_endDay_32, e0_endDay_33, e0_endDay_36, e0_endDay_37, e0_endDay_40, e0_endDay_41, e0_endDay_42, e0_endDay_45, e0_endDay_46, e0_endDay_47, e0_endDay_50, e0_endDay_51, e0_endDay_52, e0_endDay_55, e0_endDay_56, e0_endDay_57, e0_endDay_60, e0_endDay_63, e0_endDay_66, h7, h9, h13, hlt, hle, e1, ho, if_false, if_true, m_cE_i, m_cE_v, m_cE_ite, m_kill, nI_1]
      exact ih2 _
    · have hne : ¬ nI d = -1 := fun q => by
        have := nI_pos' (n := d) (by omega)
        rw [q] at this
        exact absurd this (by decide)
      have hne2 : ¬ f_en M j n 13 j n 1 = -1 := by rw [e1, ho]; exact hne
      have how : f_ow (f_en M j n) j n = d := by
        unfold f_ow
        rw [e1, ho, nI_clamp (by omega)]
      have h12 := m_d12 hj hd
      by_cases hidle : M 11 j 0 3 ≤ f_id (f_en M j n) j n
      · have hf : f_en M j (n + 1) = m_set (f_give (m_set (m_set (m_set (f_en M j n) 13 j n 2 (f_id (f_en M j n) j n)) 13 j n 3 0) 12 j d 2 (-1)) j n (-1)) 13 j n 5 (f_en M j n 13 j n 5 + 1) := by
          show f_e1 (f_en M j n) j n = _
          unfold f_e1
          rw [if_neg hne2, e11, how]
          exact if_pos hidle
        have hl : f_ln M j (n + 1) = f_ln M j n + 1 := by
          show f_ln M j n + f_l1 (f_en M j n) j n = _
          unfold f_l1
          rw [if_neg hne2, e11, if_pos hidle]
        rw [hf, hl] at ih2
        have hnl : ¬ f_id (f_en M j n) j n < M 11 j 0 3 := Int32.not_lt.mpr hidle
        have hrel := s_release j hj d n hd hlt (m_set (m_set (f_en M j n) 13 j n 2 (f_id (f_en M j n) j n)) 13 j n 3 0)
          (by rw [m_set_n (fun q => absurd q.2.2.2 (by decide)), m_set_n (fun q => absurd q.2.2.2 (by decide)), e1]; exact ho)
          (by rw [m_set_n (fun q => absurd q.1 (by decide)), m_set_n (fun q => absurd q.1 (by decide)), e75]; exact hcd)
        have e5 : f_give (m_set (m_set (m_set (f_en M j n) 13 j n 2 (f_id (f_en M j n) j n)) 13 j n 3 0) 12 j d 2 (-1)) j n (-1) 13 j n 5 = f_en M j n 13 j n 5 := by
          unfold f_give
          rw [m_set_n (fun q => absurd q.2.2.2 (by decide)), m_set_n (fun q => absurd q.2.2.2 (by decide)), m_set_n (fun q => absurd q.2.2.2 (by decide)), m_set_n (fun q => absurd q.1 (by decide)), m_set_n (fun q => absurd q.2.2.2 (by decide)), m_set_n (fun q => absurd q.2.2.2 (by decide))]
        have eid : m_set (m_set (f_en M j n) 13 j n 2 (f_id (f_en M j n) j n)) 13 j n 3 0 13 j n 2 = f_id (f_en M j n) j n := by
          rw [m_set_n (fun q => absurd q.2.2.2 (by decide)), m_set_i]
        have e113 : m_set (m_set (f_en M j n) 13 j n 2 (f_id (f_en M j n) j n)) 13 j n 3 0 11 j 0 3 = M 11 j 0 3 := by
          rw [m_set_n (fun q => absurd q.1 (by decide)), m_set_n (fun q => absurd q.1 (by decide))]
          exact e11
        have hce := s_cEnd j n hj hlt (f_en M j n) hb
        rw [show (if f_en M j n 13 j n 3 = 0 then f_en M j n 13 j n 2 + 1 else 0) = f_id (f_en M j n) j n from rfl] at hce
        simp only [e0_endDay_5, e0_endDay_7, e0_endDay_10, e0_endDay_11, e0_endDay_14, e0_endDay_15, e0_endDay_16, e0_endDay_17, e0_endDay_18, e0_endDay_21, e0_endDay_22, e0_endDay_25, e0_endDay_28, e0_endDay_29, e0_endDay_32, e0_endDay_33, e0_endDay_36, e0_endDay_37, e0_endDay_40, e0_endDay_41, e0_endDay_42, e0_endDay_45, e0_endDay_46, e0_endDay_47, e0_endDay_50, e0_endDay_51, e0_endDay_52, e0_endDay_55, e0_endDay_56, e0_endDay_57, e0_endDay_60, e0_endDay_63, e0_endDay_66, h7, h9, h11, h13, hlt, hle, e1, ho, hne, hce, eid, e113, hnl, hrel, e5, if_false, if_true, m_cE_i, m_cE_v, m_cE_ite, m_kill, nI_1]
        exact ih2 _
      · have hf : f_en M j (n + 1) = m_set (m_set (f_en M j n) 13 j n 2 (f_id (f_en M j n) j n)) 13 j n 3 0 := by
          show f_e1 (f_en M j n) j n = _
          unfold f_e1
          rw [if_neg hne2, e11]
          exact if_neg hidle
        have hl : f_ln M j (n + 1) = f_ln M j n := by
          show f_ln M j n + f_l1 (f_en M j n) j n = _
          unfold f_l1
          rw [if_neg hne2, e11, if_neg hidle, Int32.add_zero]
        rw [hf, hl] at ih2
        have hnl : f_id (f_en M j n) j n < M 11 j 0 3 := Int32.not_le.mp hidle
        have eid : m_set (m_set (f_en M j n) 13 j n 2 (f_id (f_en M j n) j n)) 13 j n 3 0 13 j n 2 = f_id (f_en M j n) j n := by
          rw [m_set_n (fun q => absurd q.2.2.2 (by decide)), m_set_i]
        have e113 : m_set (m_set (f_en M j n) 13 j n 2 (f_id (f_en M j n) j n)) 13 j n 3 0 11 j 0 3 = M 11 j 0 3 := by
          rw [m_set_n (fun q => absurd q.1 (by decide)), m_set_n (fun q => absurd q.1 (by decide))]
          exact e11
        have hce := s_cEnd j n hj hlt (f_en M j n) hb
        rw [show (if f_en M j n 13 j n 3 = 0 then f_en M j n 13 j n 2 + 1 else 0) = f_id (f_en M j n) j n from rfl] at hce
        simp only [e0_endDay_5, e0_endDay_7, e0_endDay_10, e0_endDay_11, e0_endDay_14, e0_endDay_15, e0_endDay_16, e0_endDay_17, e0_endDay_18, e0_endDay_21, e0_endDay_22, e0_endDay_25, e0_endDay_28, e0_endDay_29, e0_endDay_32, e0_endDay_33, e0_endDay_36, e0_endDay_37, e0_endDay_40, e0_endDay_41, e0_endDay_42, e0_endDay_45, e0_endDay_46, e0_endDay_47, e0_endDay_50, e0_endDay_51, e0_endDay_52, e0_endDay_55, e0_endDay_56, e0_endDay_57, e0_endDay_60, e0_endDay_63, e0_endDay_66, h7, h9, h11, h13, hlt, hle, e1, ho, hne, hce, eid, e113, hnl, if_false, if_true, m_cE_i, m_cE_v, m_cE_ite, m_kill, nI_1]
        exact ih2 _
theorem s_end (j : Nat) (hj : j < 9) (M : m_Mem) (hB : ∀ c, c < 10 → m_nb (M 13 j c 3) = M 13 j c 3) (hO : ∀ c, c < 10 → M 13 j c 1 = -1 ∨ ∃ d, d < 8 ∧ M 13 j c 1 = nI d ∧ nI d < M 7 j 0 5) : m_cl 22 [.ref (m_lc 7 j 0)] M = some (.inl (some (.int (f_ln M j 10))), m_set (f_en M j 10) 7 j 0 7 (M 7 j 0 7 + 1)) := by
  rw [e0_endDay_en]
  simp only [e0_endDay_0, e0_endDay_1, e0_endDay_2, e0_endDay_3, m_kill]
  exact s_end_l j hj M hB hO 10 0 _ rfl
def f_num (M : m_Mem) (j N B k : Nat) : Int32 := match k with
  | 0 => M 7 j 0 7
  | 1 => M 7 j 0 5
  | 2 => f_tk M j 10
  | 3 => M 14 j 12 0
  | 4 => M 14 j 12 1
  | 5 => M 7 j 0 6
  | 6 => M 7 j 0 8 + 50
  | 7 => M 7 j 0 9
  | 8 => f_tot M j 0 N
  | 9 => f_tot M j 1 N
  | 10 => f_tot M j 5 N
  | 11 => f_tot M j 6 N
  | 12 => f_tot M j 7 N
  | 13 => f_fib M j B
  | 14 => f_tot M j 4 N
  | _ => f_tot M j 0 N + f_tot M j 7 N - f_tot M j 1 N
theorem s_num (j : Nat) (hj : j < 9) (N B : Nat) (hN : N ≤ 8) (hBB : B ≤ 12) (M : m_Mem) (hc : M 7 j 0 5 = nI N) (hb : M 7 j 0 6 = nI B) (k : Nat) (hk : k < 16) : m_cl 28 [.ref (m_lc 7 j 0), .int (nI k)] M = some (.inl (some (.int (f_num M j N B k))), M) := by
  have h7 := m_d7 hj
  have h14 := m_d14 hj (by decide : 12 < 13)
  have t : ∀ k : Nat, k < 8 → m_cl 26 [.ref (m_lc 7 j 0), .int (nI k)] M = some (.inl (some (.int (f_tot M j k N))), M) := fun k hk => s_tot j hj k hk N hN M hc
  have t0 : m_cl 26 [.ref (m_lc 7 j 0), .int 0] M = some (.inl (some (.int (f_tot M j 0 N))), M) := t 0 (by decide)
  have t1 : m_cl 26 [.ref (m_lc 7 j 0), .int 1] M = some (.inl (some (.int (f_tot M j 1 N))), M) := t 1 (by decide)
  have t4 : m_cl 26 [.ref (m_lc 7 j 0), .int 4] M = some (.inl (some (.int (f_tot M j 4 N))), M) := t 4 (by decide)
  have t5 : m_cl 26 [.ref (m_lc 7 j 0), .int 5] M = some (.inl (some (.int (f_tot M j 5 N))), M) := t 5 (by decide)
  have t6 : m_cl 26 [.ref (m_lc 7 j 0), .int 6] M = some (.inl (some (.int (f_tot M j 6 N))), M) := t 6 (by decide)
  have t7 : m_cl 26 [.ref (m_lc 7 j 0), .int 7] M = some (.inl (some (.int (f_tot M j 7 N))), M) := t 7 (by decide)
  rw [e0_number_en]
  have hk : k = 0 ∨ k = 1 ∨ k = 2 ∨ k = 3 ∨ k = 4 ∨ k = 5 ∨ k = 6 ∨ k = 7 ∨ k = 8 ∨ k = 9 ∨ k = 10 ∨ k = 11 ∨ k = 12 ∨ k = 13 ∨ k = 14 ∨ k = 15 := by omega
  rcases hk with rfl | rfl | rfl | rfl | rfl | rfl | rfl | rfl | rfl | rfl | rfl | rfl | rfl | rfl | rfl | rfl
  all_goals simp (config := { decide := true }) only [e0_number_0, e0_number_1, e0_number_76, e0_number_77, e0_number_80, e0_number_81, e0_number_82, e0_number_85, e0_number_86, e0_number_87, e0_number_90, e0_number_91, e0_number_92, e0_number_95, e0_number_98, e0_number_99, e0_number_100, e0_number_103, e0_number_106, e0_number_107, e0_number_108, e0_number_111, e0_number_112, e0_number_113, e0_number_116, e0_number_118, e0_number_119, e0_number_120, e0_number_121, e0_number_124, e0_number_125, e0_number_126, e0_number_127, e0_number_130, e0_number_131, e0_number_132, e0_number_133, e0_number_136, e0_number_137, e0_number_138, e0_number_139, e0_number_142, e0_number_143, e0_number_144, e0_number_146, e0_number_149, e0_number_150, e0_number_151, e0_number_153, e0_number_156, e0_number_157, e0_number_158, e0_number_161, e0_number_162, e0_number_163, e0_number_164, e0_number_167, e0_number_168, e0_number_169, e0_number_170, e0_number_173, e0_number_174, e0_number_176, e0_number_179, e0_number_180, e0_number_181, e0_number_182, e0_number_185, e0_number_186, h7, h14, t0, t1, t4, t5, t6, t7, s_taken j hj, s_fib j hj B hBB M hb, m_cE_i, m_cE_v, m_cE_ite, m_kill, if_true, if_false, f_num]
/-- a step of the search for the fewest grains -/
def f_fs (M : m_Mem) (j : Nat) (cents t s : Int32) : Int32 := if t + s ≤ 9999 ∧ f_pay M j (t + s) < cents then t + s else t
def f_ft (M : m_Mem) (j : Nat) (cents : Int32) : Int32 :=
  let s := f_fs M j cents
  s (s (s (s (s (s (s (s (s (s (s (s (s (s 0 8192) 4096) 2048) 1024) 512) 256) 128) 64) 32) 16) 8) 4) 2) 1