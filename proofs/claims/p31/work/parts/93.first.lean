/-! THE FIRST MEMORY, and that class and law agree on it. -/
def j_set : Nat → Int32 := upd (upd (upd (upd (upd (fun _ => 0) 0 750) 1 40) 2 5) 3 7) 4 10
def j_M (xs : Nat → Int32) (L : Nat) : m_Mem := fun a _ _ k => match a with
  | 4 => nI k
  | 11 => j_set k
  | 12 => if k = 2 then -1 else 0
  | 13 => if k = 0 then 800 else if k = 1 then -1 else 0
  | 24 => m_s24 k
  | 25 => m_s25 k
  | 26 => xs k
  | 27 => nI L
  | _ => 0
/-- what the law lays into its own arrays -/
def j_lay (M : m_Mem) (c : Nat) : m_Mem := m_set (m_set M 18 0 0 (6 * c) 800) 18 0 0 (6 * c + 1) (-1)
def j_lays (M : m_Mem) : Nat → m_Mem
  | 0 => M
  | c + 1 => j_lay (j_lays M c) c
def j_g0 (M : m_Mem) : m_Mem := m_set (m_set (m_set (m_set (m_set M 16 0 0 8 750) 16 0 0 9 40) 16 0 0 10 5) 16 0 0 11 7) 16 0 0 12 10
def j_cl : Nat → Nat → Int32
  | 0 => fun _ => 0
  | c + 1 => upd (upd (j_cl c) (6 * c) 800) (6 * c + 1) (-1)
def j_gl : Nat → Int32 := upd (upd (upd (upd (upd (fun _ => 0) 8 750) 9 40) 10 5) 11 7) 12 10
def j_row (k : Nat) : Int32 := if k < 13 then j_gl k else if k < 77 then 0 else if k < 137 then j_cl 10 (k - 77) else 0
theorem j_lays_o (M : m_Mem) {a b c k : Nat} (h : a ≠ 18) : ∀ n, j_lays M n a b c k = M a b c k
  | 0 => rfl
  | n + 1 => by
    show m_set (m_set (j_lays M n) 18 0 0 (6 * n) 800) 18 0 0 (6 * n + 1) (-1) a b c k = _
    rw [m_set_n (fun q => h q.1), m_set_n (fun q => h q.1), j_lays_o M h n]
theorem j_lays_18 (M : m_Mem) (h : ∀ k, M 18 0 0 k = 0) (k : Nat) : ∀ n, j_lays M n 18 0 0 k = j_cl n k
  | 0 => h k
  | n + 1 => by
    show m_set (m_set (j_lays M n) 18 0 0 (6 * n) 800) 18 0 0 (6 * n + 1) (-1) 18 0 0 k = upd (upd (j_cl n) (6 * n) 800) (6 * n + 1) (-1) k
    rw [m_set_at, m_set_at, j_lays_18 M h k n]
    unfold upd
    simp only [true_and]
theorem j_g0_o (M : m_Mem) {a b c k : Nat} (h : a ≠ 16) : j_g0 M a b c k = M a b c k := by
  unfold j_g0
  rw [m_set_n (fun q => h q.1), m_set_n (fun q => h q.1), m_set_n (fun q => h q.1), m_set_n (fun q => h q.1), m_set_n (fun q => h q.1)]
theorem j_g0_16 (M : m_Mem) (h : ∀ k, M 16 0 0 k = 0) (k : Nat) : j_g0 M 16 0 0 k = j_gl k := by
  unfold j_g0 j_gl upd
  simp only [m_set_at, true_and, h]
theorem j_rowC : ∀ c, c < 10 → j_row (77 + 6 * c + 0) = 800 ∧ j_row (77 + 6 * c + 1) = -1 ∧ j_row (77 + 6 * c + 2) = 0 ∧ j_row (77 + 6 * c + 3) = 0 ∧ j_row (77 + 6 * c + 4) = 0 := by decide +kernel
theorem j_rowG : ∀ b, b < 12 → j_row (137 + 3 * b + 0) = 0 ∧ j_row (137 + 3 * b + 1) = 0 ∧ j_row (137 + 3 * b + 2) = 0 := by decide +kernel
theorem j_rowA : ∀ i, i < 13 → j_row i = if 8 ≤ i then j_set (i - 8) else 0 := by decide +kernel
section FIRST
variable (xs : Nat → Int32) (L : Nat)
/-- the memory behind the law's start -/
def j_N : m_Mem := j_lays (j_g0 (j_M xs L)) 10
theorem j_N_o {a b c k : Nat} (h : a ≠ 16) (h2 : a ≠ 18) : j_N xs L a b c k = j_M xs L a b c k := by
  unfold j_N
  rw [j_lays_o _ h2, j_g0_o _ h]
theorem j_N_K : ∀ i, y_K (j_N xs L) 16 0 0 i = j_row i := by
  intro i
  rw [y_at]
  unfold y_S j_row
  have e1 : j_N xs L 16 0 0 i = j_gl i := by
    unfold j_N
    rw [j_lays_o _ (by decide), j_g0_16 _ (fun _ => rfl)]
  have e2 : j_N xs L 18 0 0 (i - 77) = j_cl 10 (i - 77) := by
    unfold j_N
    rw [j_lays_18 _ (fun k => j_g0_o _ (by decide))]
  have e3 : j_N xs L 17 0 0 (i - 13) = 0 := j_N_o xs L (by decide) (by decide)
  have e4 : j_N xs L 19 0 0 (i - 137) = 0 := j_N_o xs L (by decide) (by decide)
  rw [e1, e2, e3, e4]
theorem j_q : ∀ i, i < 6 → f_q (j_M xs L) i = i := by
  intro i hi
  show (nI i).toNatClampNeg = i
  exact nI_clamp (by omega)
theorem j_C0 : r_C (j_M xs L) 0 j_row 0 0 := by
  have s0 : ∀ i, i < 13 → j_row i = if 8 ≤ i then j_set (i - 8) else 0 := j_rowA
  refine ⟨⟨⟨by decide, rfl, s0 1 (by decide)⟩, ⟨by decide, rfl, s0 5 (by decide)⟩, ⟨(s0 0 (by decide)).symm, (s0 6 (by decide)).symm, (s0 7 (by decide)).symm⟩, ⟨(s0 2 (by decide)).symm, (s0 3 (by decide)).symm, (s0 4 (by decide)).symm⟩, ⟨(s0 8 (by decide)).symm, (s0 9 (by decide)).symm, (s0 10 (by decide)).symm, (s0 11 (by decide)).symm, (s0 12 (by decide)).symm⟩⟩, ⟨fun d hd => absurd hd (Nat.not_lt_zero _), fun d _ _ k _ => rfl⟩, fun c hc => ?_, fun b hb => ?_, ⟨fun c _ => Or.inl rfl, fun d hd => absurd hd (Nat.not_lt_zero _)⟩, ?_, fun c _ => ?_, ⟨fun _ => 0, fun _ => 0, fun _ => 0, 0, fun d hd => absurd hd (Nat.not_lt_zero _), fun d hd => absurd hd (Nat.not_lt_zero _), rfl, by decide, rfl⟩⟩
  · obtain ⟨h0, h1, h2, h3, h4⟩ := j_rowC c hc
    exact ⟨h0.symm, h1.symm, h2.symm, h3.symm, h4.symm, Or.inl rfl, fun _ => rfl, fun h => absurd rfl h⟩
  · obtain ⟨h0, h1, h2⟩ := j_rowG b hb
    exact ⟨h0.symm, h1.symm, h2.symm⟩
  · show ((0 : Int32) ≤ 0 ∧ (0 : Int32) ≤ 9999) ∧ (-50 ≤ (0 : Int32) ∧ (0 : Int32) ≤ 50) ∧ (500 ≤ j_set 0 ∧ j_set 0 ≤ 1000) ∧ (1 ≤ j_set 1 ∧ j_set 1 ≤ 999) ∧ (0 ≤ j_set 2 ∧ j_set 2 ≤ 50) ∧ (1 ≤ j_set 3 ∧ j_set 3 ≤ 30) ∧ (1 ≤ j_set 4 ∧ j_set 4 ≤ 99)
    decide
  · show 500 ≤ (800 : Int32) ∧ (800 : Int32) ≤ 1000
    decide
def j_K0 : m_Mem := fun a _ _ k => if a = 16 then j_row k else 0
theorem j_W00 : y_W (j_M xs L) j_K0 0 0 0 := by
  refine ⟨⟨by decide, rfl⟩, fun i hi => ?_, ?_, ⟨fun d hd => absurd hd (Nat.not_lt_zero _), rfl⟩, fun j _ => rfl, fun j _ => rfl⟩
  · rw [j_q xs L i hi]
    exact ⟨hi, rfl⟩
  · exact j_C0 xs L
theorem j_V0 : y_V (j_N xs L) L 0 0 0 0 := by
  refine ⟨y_Wcg (j_W00 xs L) (fun a b c k _ h => j_N_o xs L (by omega) (by omega)) (fun i _ => j_N_K xs L i), fun c hc _ => ?_, ⟨j_N_o xs L (by decide) (by decide), fun i _ => ?_⟩, j_N_o xs L (by decide) (by decide), j_N_o xs L (by decide) (by decide)⟩
  · rw [j_N_K]
    exact (j_rowC c hc).2.2.1
  · rw [j_N_o xs L (by decide) (by decide)]
    show m_nok 2 0 = true
    decide
theorem j_N16 : j_N xs L 16 0 0 0 = 0 := by
  have h := j_N_K xs L 0
  rw [y_16 (by decide)] at h
  rw [h]
  decide
variable {xs L}
theorem j_st {M : m_Mem} {k : Nat} (hk : k < 10) : m_E 116 63 [some (.ref (m_lc 26 0 0)), some (.ref (m_lc 1 0 0)), some (.ref (m_lc 16 0 0)), some (.ref (m_lc 17 0 0)), some (.ref (m_lc 18 0 0)), some (.ref (m_lc 19 0 0)), some (.int (nI k)), none, none] [] M = m_E 116 63 [some (.ref (m_lc 26 0 0)), some (.ref (m_lc 1 0 0)), some (.ref (m_lc 16 0 0)), some (.ref (m_lc 17 0 0)), some (.ref (m_lc 18 0 0)), some (.ref (m_lc 19 0 0)), some (.int (nI (k + 1))), none, none] [] (j_lay M k) := by
  have h1 : ¬ (10 : Int32) ≤ nI k := nI_ge hk (by decide)
  have e6 : (6 : Int32) * nI k = nI (6 * k) := nI_mul 6 k
  have e7 : nI (6 * k) + 1 = nI (6 * k + 1) := nI_add (6 * k) 1
  have g1 : 6 * k < 60 := by omega
  have g2 : 6 * k + 1 < 60 := by omega
  rw [eL_law_63]
  simp only [eL_law_65, eL_law_67, eL_law_70, eL_law_72, eL_law_74, eL_law_76, eL_law_77, eL_law_80, eL_law_81, eL_law_83, eL_law_85, eL_law_87, eL_law_88, eL_law_89, eL_law_90, eL_law_91, eL_law_92, eL_law_95, h1, e6, e7, g1, g2, if_false, nI_1, m_kill]
  rfl
theorem j_sts {M : m_Mem} : ∀ k, k ≤ 10 → m_E 116 63 [some (.ref (m_lc 26 0 0)), some (.ref (m_lc 1 0 0)), some (.ref (m_lc 16 0 0)), some (.ref (m_lc 17 0 0)), some (.ref (m_lc 18 0 0)), some (.ref (m_lc 19 0 0)), some (.int 0), none, none] [] M = m_E 116 63 [some (.ref (m_lc 26 0 0)), some (.ref (m_lc 1 0 0)), some (.ref (m_lc 16 0 0)), some (.ref (m_lc 17 0 0)), some (.ref (m_lc 18 0 0)), some (.ref (m_lc 19 0 0)), some (.int (nI k)), none, none] [] (j_lays M k)
  | 0, _ => rfl
  | k + 1, h => (j_sts k (by omega)).trans (j_st (by omega))
theorem j_to {M : m_Mem} : m_E 116 30 [some (.ref (m_lc 26 0 0)), some (.ref (m_lc 1 0 0)), some (.ref (m_lc 16 0 0)), some (.ref (m_lc 17 0 0)), some (.ref (m_lc 18 0 0)), some (.ref (m_lc 19 0 0)), none, none, none] [] M = m_E 116 98 [some (.ref (m_lc 26 0 0)), some (.ref (m_lc 1 0 0)), some (.ref (m_lc 16 0 0)), some (.ref (m_lc 17 0 0)), some (.ref (m_lc 18 0 0)), some (.ref (m_lc 19 0 0)), some (.int (nI 10)), none, none] [] (j_lays (j_g0 M) 10) := by
  have h1 : (10 : Int32) ≤ nI 10 := by decide
  simp only [eL_law_30, eL_law_31, eL_law_33, eL_law_36, eL_law_37, eL_law_38, eL_law_40, eL_law_42, eL_law_43, eL_law_44, eL_law_46, eL_law_47, eL_law_48, eL_law_49, eL_law_51, eL_law_53, eL_law_54, eL_law_55, eL_law_57, eL_law_59, eL_law_60, eL_law_61, m_kill]
  refine Eq.trans (j_sts 10 (by decide)) ?_
  simp only [eL_law_63, eL_law_65, eL_law_67, h1, if_true]
  rfl
/-- the law's run from behind the makings -/
theorem j_run (hL : L < 2 ^ 31) : ∃ q M', m_run q 116 30 [some (.ref (m_lc 26 0 0)), some (.ref (m_lc 1 0 0)), some (.ref (m_lc 16 0 0)), some (.ref (m_lc 17 0 0)), some (.ref (m_lc 18 0 0)), some (.ref (m_lc 19 0 0)), none, none, none] [] (j_M xs L) = some (.inl (some (.int 1)), M') ∧ m_dc (j_M xs L) M' ≤ 3000 := by
  obtain ⟨M', c', r1, r2, r3⟩ := l_law hL (j_V0 xs L) (j_N16 xs L) (some (.int (nI 10)))
  obtain ⟨q, hq⟩ := m_E_inv ((j_to (M := j_M xs L)).trans r1)
  refine ⟨q, M', hq, ?_⟩
  unfold m_dc m_cnt
  rw [r2, nI_clamp (by omega)]
  omega
end FIRST
