/-! THE LAW'S OWN SUMS: passes. -/
def l_id (M : m_Mem) (n : Nat) : Int32 := if M 18 0 0 (6 * n + 5) = 1 ∨ M 18 0 0 (6 * n + 1) < 0 then 0 else M 18 0 0 (6 * n + 2) + 1
def l_q1 (M : m_Mem) (n : Nat) : m_Mem := m_set (m_set M 18 0 0 (6 * n + 2) (l_id M n)) 18 0 0 (6 * n + 5) 0
def l_p1 (M : m_Mem) (n : Nat) : m_Mem := if M 18 0 0 (6 * n + 1) < 0 ∨ l_id M n < M 16 0 0 11 then l_q1 M n
  else l_ad (m_set (m_set (m_set (l_q1 M n) 17 0 0 (8 * (M 18 0 0 (6 * n + 1)).toNatClampNeg + 2) (-1)) 18 0 0 (6 * n + 1) (-1)) 18 0 0 (6 * n + 2) 0) 18 (6 * n + 4) 1
def l_l1 (M : m_Mem) (n : Nat) : Int32 := if M 18 0 0 (6 * n + 1) < 0 ∨ l_id M n < M 16 0 0 11 then 0 else 1
def l_pn (M : m_Mem) : Nat → m_Mem
  | 0 => M
  | n + 1 => l_p1 (l_pn M n) n
def l_ln (M : m_Mem) : Nat → Int32
  | 0 => 0
  | n + 1 => l_ln M n + l_l1 (l_pn M n) n
def l_dy (M : m_Mem) : m_Mem := l_ad (l_pn M 10) 16 0 1
def l_dn (M : m_Mem) : Nat → m_Mem
  | 0 => M
  | n + 1 => l_dy (l_dn M n)
def l_dl (M : m_Mem) : Nat → Int32
  | 0 => 0
  | n + 1 => l_dl M n + l_ln (l_dn M n) 10
def l_ok (M : m_Mem) : Prop := ∀ c, c < 10 → l_pn M c 18 0 0 (6 * c + 1) < 0 ∨ ∃ d, d < 8 ∧ l_pn M c 18 0 0 (6 * c + 1) = nI d
section LAW3
variable {M : m_Mem} {N B : Nat}
/-- a claim at a day's end, from the head of the loop to its next turn -/
theorem l_pass1 (K : m_Mem) (n : Nat) (hn : n < 10) (x : Int32) (v v5 : Int32) (ho : K 18 0 0 (6 * n + 1) < 0 ∨ ∃ d, d < 8 ∧ K 18 0 0 (6 * n + 1) = nI d) :
    m_E 108 29 [some (.ref (m_lc 16 0 0)), some (.ref (m_lc 17 0 0)), some (.ref (m_lc 18 0 0)), some (.int v), some (.int x), some (.int v5), some (.int (nI (6 * n)))] [] K =
    m_E 108 29 [some (.ref (m_lc 16 0 0)), some (.ref (m_lc 17 0 0)), some (.ref (m_lc 18 0 0)), some (.int v), some (.int (x + l_l1 K n)), some (.int v5), some (.int (nI (6 * (n + 1))))] [] (l_p1 K n) := by
  have hle : ¬ (60 : Int32) ≤ nI (6 * n) := nI_ge (b := 60) (by omega) (by decide)
  have b1 : 6 * n + 1 < 60 := by omega
  have b2 : 6 * n + 2 < 60 := by omega
  have b4 : 6 * n + 4 < 60 := by omega
  have b5 : 6 * n + 5 < 60 := by omega
  have e6 : nI (6 * n) + 6 = nI (6 * (n + 1)) := nI_add (6 * n) 6
  have tail : ∀ i : Int32, l_id K n = i → m_E 108 72 [some (.ref (m_lc 16 0 0)), some (.ref (m_lc 17 0 0)), some (.ref (m_lc 18 0 0)), some (.int v), some (.int x), some (.int v5), some (.int (nI (6 * n)))] [.int i, .int (nI (6 * n + 2)), .ref (m_lc 18 0 0)] K =
      m_E 108 29 [some (.ref (m_lc 16 0 0)), some (.ref (m_lc 17 0 0)), some (.ref (m_lc 18 0 0)), some (.int v), some (.int (x + l_l1 K n)), some (.int v5), some (.int (nI (6 * (n + 1))))] [] (l_p1 K n) := by
    intro i hi
    have hq : m_set (m_set K 18 0 0 (6 * n + 2) i) 18 0 0 (6 * n + 5) 0 = l_q1 K n := by unfold l_q1; rw [hi]
    have q1 : l_q1 K n 18 0 0 (6 * n + 1) = K 18 0 0 (6 * n + 1) := by unfold l_q1; rw [m_set_n (by omega), m_set_n (by omega)]
    have q2 : l_q1 K n 18 0 0 (6 * n + 2) = i := by unfold l_q1; rw [m_set_n (by omega), m_set_i, hi]
    have q11 : l_q1 K n 16 0 0 11 = K 16 0 0 11 := by unfold l_q1; rw [m_set_n (by omega), m_set_n (by omega)]
    rcases ho with ho | ⟨d, hd, ho⟩
    · have hl : l_l1 K n = 0 := if_pos (Or.inl ho)
      have hp : l_p1 K n = l_q1 K n := if_pos (Or.inl ho)
      rw [hl, hp, Int32.add_zero]
      simp only [eL_passes_72, eL_passes_73, eL_passes_74, eL_passes_76, eL_passes_77, eL_passes_78, eL_passes_79, eL_passes_80, eL_passes_81, eL_passes_83, eL_passes_84, eL_passes_85, eL_passes_86, b1, b2, b5, i_p5, nI_1, hq, q1, ho, if_true]
      simp only [eL_passes_143, eL_passes_146, m_kill, e6]
    · have h0 : ¬ nI d < 0 := nI_pos (by omega)
      have h1 : ¬ K 18 0 0 (6 * n + 1) < 0 := by rw [ho]; exact h0
      by_cases h2 : i < K 16 0 0 11
      · have hl : l_l1 K n = 0 := if_pos (Or.inr (by rw [hi]; exact h2))
        have hp : l_p1 K n = l_q1 K n := if_pos (Or.inr (by rw [hi]; exact h2))
        rw [hl, hp, Int32.add_zero]
        simp only [eL_passes_72, eL_passes_73, eL_passes_74, eL_passes_76, eL_passes_77, eL_passes_78, eL_passes_79, eL_passes_80, eL_passes_81, eL_passes_83, eL_passes_84, eL_passes_85, eL_passes_86, b1, b2, b5, i_p5, nI_1, hq, q1, ho, h0, if_false]
        simp only [eL_passes_89, eL_passes_90, eL_passes_92, eL_passes_93, eL_passes_94, eL_passes_95, eL_passes_96, eL_passes_98, eL_passes_99, b2, i_p2, q2, q11, h2, if_true]
        simp only [eL_passes_143, eL_passes_146, m_kill, e6]
      · have hl : l_l1 K n = 1 := if_neg (fun q => q.elim h1 (fun z => h2 (by rw [← hi]; exact z)))
        have hp : l_p1 K n = l_ad (m_set (m_set (m_set (l_q1 K n) 17 0 0 (8 * d + 2) (-1)) 18 0 0 (6 * n + 1) (-1)) 18 0 0 (6 * n + 2) 0) 18 (6 * n + 4) 1 := by
          refine (if_neg (fun q => q.elim h1 (fun z => h2 (by rw [← hi]; exact z)))).trans ?_
          rw [ho, nI_clamp (by omega)]
        have b8 : 8 * d + 2 < 64 := by omega
        rw [hl, hp]
        simp only [eL_passes_72, eL_passes_73, eL_passes_74, eL_passes_76, eL_passes_77, eL_passes_78, eL_passes_79, eL_passes_80, eL_passes_81, eL_passes_83, eL_passes_84, eL_passes_85, eL_passes_86, b1, b2, b5, i_p5, nI_1, hq, q1, ho, h0, if_false]
        simp only [eL_passes_89, eL_passes_90, eL_passes_92, eL_passes_93, eL_passes_94, eL_passes_95, eL_passes_96, eL_passes_98, eL_passes_99, b2, i_p2, q2, q11, h2, if_false]
        simp only [eL_passes_102, eL_passes_103, eL_passes_105, eL_passes_106, eL_passes_108, eL_passes_109, eL_passes_110, eL_passes_111, eL_passes_112, eL_passes_113, eL_passes_114, eL_passes_115, eL_passes_116, eL_passes_117, eL_passes_119, eL_passes_120, eL_passes_121, eL_passes_122, eL_passes_123, eL_passes_124, eL_passes_126, eL_passes_127, eL_passes_128, eL_passes_129, eL_passes_130, eL_passes_131, eL_passes_133, eL_passes_134, eL_passes_135, eL_passes_136, eL_passes_137, eL_passes_138, eL_passes_139, eL_passes_140, eL_passes_143, eL_passes_146, b1, b2, b4, b8, g_x8, nI_1, i_p2, i_p4, q1, ho, m_kill, e6]
        rfl
  rw [eL_passes_29]
  by_cases h5 : K 18 0 0 (6 * n + 5) = 1
  · have hi : l_id K n = 0 := if_pos (Or.inl h5)
    simp only [eL_passes_31, eL_passes_33, eL_passes_36, eL_passes_37, eL_passes_39, eL_passes_40, eL_passes_41, eL_passes_42, eL_passes_44, eL_passes_45, eL_passes_46, eL_passes_47, eL_passes_48, hle, b5, i_p5, h5, if_true, if_false]
    simp only [eL_passes_51, eL_passes_52, eL_passes_54, eL_passes_55, eL_passes_56, eL_passes_57, eL_passes_60, eL_passes_61, b1, b2, nI_1, i_p2]
    exact tail _ hi
  · by_cases h1 : K 18 0 0 (6 * n + 1) < 0
    · have h2 : ¬ 0 ≤ K 18 0 0 (6 * n + 1) := Int32.not_le.mpr h1
      have hi : l_id K n = 0 := if_pos (Or.inr h1)
      simp only [eL_passes_31, eL_passes_33, eL_passes_36, eL_passes_37, eL_passes_39, eL_passes_40, eL_passes_41, eL_passes_42, eL_passes_44, eL_passes_45, eL_passes_46, eL_passes_47, eL_passes_48, hle, b5, i_p5, h5, if_false]
      simp only [eL_passes_51, eL_passes_52, eL_passes_54, eL_passes_55, eL_passes_56, eL_passes_57, eL_passes_60, eL_passes_61, b1, b2, h2, nI_1, i_p2, if_false]
      exact tail _ hi
    · have h2 : 0 ≤ K 18 0 0 (6 * n + 1) := Int32.not_lt.mp h1
      have hi : l_id K n = K 18 0 0 (6 * n + 2) + 1 := if_neg (fun q => q.elim h5 h1)
      simp only [eL_passes_31, eL_passes_33, eL_passes_36, eL_passes_37, eL_passes_39, eL_passes_40, eL_passes_41, eL_passes_42, eL_passes_44, eL_passes_45, eL_passes_46, eL_passes_47, eL_passes_48, hle, b5, i_p5, h5, if_false]
      simp only [eL_passes_51, eL_passes_52, eL_passes_54, eL_passes_55, eL_passes_56, eL_passes_57, eL_passes_60, eL_passes_61, eL_passes_64, eL_passes_65, eL_passes_67, eL_passes_68, eL_passes_69, eL_passes_70, eL_passes_71, b1, b2, h2, nI_1, i_p2, if_true]
      exact tail _ hi
theorem l_pass_in (hO : l_ok M) (x v v5 : Int32) : ∀ (k n : Nat), n + k = 10 →
    m_E 108 29 [some (.ref (m_lc 16 0 0)), some (.ref (m_lc 17 0 0)), some (.ref (m_lc 18 0 0)), some (.int v), some (.int (x + l_ln M n)), some (.int v5), some (.int (nI (6 * n)))] [] (l_pn M n) =
    m_E 108 149 [some (.ref (m_lc 16 0 0)), some (.ref (m_lc 17 0 0)), some (.ref (m_lc 18 0 0)), some (.int v), some (.int (x + l_ln M 10)), some (.int v5), some (.int (nI 60))] [] (l_pn M 10) := by
  intro k
  induction k with
  | zero =>
    intro n hn
    have e : n = 10 := by omega
    subst e
    simp only [eL_passes_29, eL_passes_31, eL_passes_33, (by decide : (60 : Int32) ≤ nI (6 * 10)), if_true]
  | succ k ih =>
    intro n hn
    have hlt : n < 10 := by omega
    have ih2 := ih (n + 1) (by omega)
    rw [l_pass1 (l_pn M n) n hlt _ v v5 (hO n hlt), Int32.add_assoc]
    exact ih2
theorem l_pass_out (K : Nat) (hK : K < 2 ^ 31) (hE : ∀ i, i < K → l_ok (l_dn M i)) : ∀ (k i : Nat) (z : Option Value), i + k = K →
    m_E 108 20 [some (.ref (m_lc 16 0 0)), some (.ref (m_lc 17 0 0)), some (.ref (m_lc 18 0 0)), some (.int (nI K)), some (.int (l_dl M i)), some (.int (nI i)), z] [] (l_dn M i) = some (.inl (some (.int (l_dl M K))), l_dn M K) := by
  intro k
  induction k with
  | zero =>
    intro i z hi
    have e : i = K := by omega
    subst e
    have hle : nI i ≤ nI i := nI_le (Nat.le_refl _) hK
    simp only [eL_passes_20, eL_passes_22, eL_passes_23, hle, if_true]
    simp only [eL_passes_162, eL_passes_164]
  | succ k ih =>
    intro i z hi
    have hle : ¬ nI K ≤ nI i := nI_ge (by omega) hK
    have L := l_pass_in (hE i (by omega)) (l_dl M i) (nI K) (nI i) 10 0 rfl
    have ih2 := fun z => ih (i + 1) z (by omega)
    have e0 : l_ln (l_dn M i) 0 = 0 := rfl
    rw [e0, Int32.add_zero] at L
    rw [eL_passes_20]
    simp only [eL_passes_22, eL_passes_23, eL_passes_26, eL_passes_27, hle, if_false, m_kill]
    rw [show (0 : Int32) = nI (6 * 0) from rfl]
    refine Eq.trans L ?_
    simp only [eL_passes_149, eL_passes_150, eL_passes_151, eL_passes_152, eL_passes_153, eL_passes_154, eL_passes_155, eL_passes_156, eL_passes_159, nI_1, m_kill]
    exact ih2 _
theorem l_passes (v : Nat) (hv : v < 2 ^ 31) (hE : M 16 0 0 0 + nI v ≤ 9999 → ∀ i, i < v → l_ok (l_dn M i)) : m_cl 108 [.ref (m_lc 16 0 0), .ref (m_lc 17 0 0), .ref (m_lc 18 0 0), .int (nI v)] M =
    if M 16 0 0 0 + nI v ≤ 9999 then some (.inl (some (.int (l_dl M v))), l_dn M v) else some (.inl (some (.int (-13))), M) := by
  rw [eL_passes_en]
  by_cases h : M 16 0 0 0 + nI v ≤ 9999
  · simp only [eL_passes_0, eL_passes_1, eL_passes_2, eL_passes_3, eL_passes_4, eL_passes_5, eL_passes_8, eL_passes_11, eL_passes_13, eL_passes_14, eL_passes_15, eL_passes_17, eL_passes_18, h, if_true, m_kill]
    exact l_pass_out v hv (hE h) v 0 _ (by omega)
  · simp only [eL_passes_0, eL_passes_1, eL_passes_2, eL_passes_3, eL_passes_4, eL_passes_5, eL_passes_8, eL_passes_11, eL_passes_13, h, if_false]
end LAW3
