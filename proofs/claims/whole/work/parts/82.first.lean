/-! THE FIRST MEMORY, and that class and model agree on it. -/
def j_set : Nat → Int32 := upd (upd (upd (upd (upd (fun _ => 0) 0 750) 1 40) 2 5) 3 7) 4 10
def j_M (xs : Nat → Int32) (L : Nat) : m_Mem := fun a _ _ k => match a with
  | 4 => nI k
  | 11 => j_set k
  | 12 => if k = 2 then -1 else 0
  | 13 => if k = 0 then 800 else if k = 1 then -1 else 0
  | 16 => j_ml 10 k
  | 24 => m_s24 k
  | 25 => m_s25 k
  | 26 => xs k
  | 27 => nI L
  | _ => 0
theorem j_mlC : ∀ c, c < 10 → j_ml 10 (77 + 6 * c + 0) = 800 ∧ j_ml 10 (77 + 6 * c + 1) = -1 ∧ j_ml 10 (77 + 6 * c + 2) = 0 ∧ j_ml 10 (77 + 6 * c + 3) = 0 ∧ j_ml 10 (77 + 6 * c + 4) = 0 := by decide +kernel
theorem j_mlG : ∀ b, b < 12 → j_ml 10 (137 + 3 * b + 0) = 0 ∧ j_ml 10 (137 + 3 * b + 1) = 0 ∧ j_ml 10 (137 + 3 * b + 2) = 0 := by decide +kernel
theorem j_mlA : ∀ i, i < 13 → j_ml 10 i = if 8 ≤ i then j_set (i - 8) else 0 := by decide +kernel
theorem j_q (xs : Nat → Int32) (L : Nat) : ∀ i, i < 6 → f_q (j_M xs L) i = i := by
  intro i hi
  show (nI i).toNatClampNeg = i
  exact nI_clamp (by omega)
theorem j_C0 (xs : Nat → Int32) (L : Nat) : r_C (j_M xs L) 0 (j_M xs L 16 0 0) 0 0 := by
  have s0 : ∀ i, i < 13 → j_M xs L 16 0 0 i = if 8 ≤ i then j_set (i - 8) else 0 := j_mlA
  refine ⟨⟨⟨by decide, rfl, s0 1 (by decide)⟩, ⟨by decide, rfl, s0 5 (by decide)⟩, ⟨(s0 0 (by decide)).symm, (s0 6 (by decide)).symm, (s0 7 (by decide)).symm⟩, ⟨(s0 2 (by decide)).symm, (s0 3 (by decide)).symm, (s0 4 (by decide)).symm⟩, ⟨(s0 8 (by decide)).symm, (s0 9 (by decide)).symm, (s0 10 (by decide)).symm, (s0 11 (by decide)).symm, (s0 12 (by decide)).symm⟩⟩, ⟨fun d hd => absurd hd (Nat.not_lt_zero _), fun d _ _ k _ => rfl⟩, fun c hc => ?_, fun b hb => ?_, ⟨fun c _ => Or.inl rfl, fun d hd => absurd hd (Nat.not_lt_zero _)⟩, ?_, fun c _ => ?_, ⟨fun _ => 0, fun _ => 0, fun _ => 0, 0, fun d hd => absurd hd (Nat.not_lt_zero _), fun d hd => absurd hd (Nat.not_lt_zero _), rfl, by decide, rfl⟩⟩
  · obtain ⟨h0, h1, h2, h3, h4⟩ := j_mlC c hc
    exact ⟨h0.symm, h1.symm, h2.symm, h3.symm, h4.symm, Or.inl rfl, fun _ => rfl, fun h => absurd rfl h⟩
  · obtain ⟨h0, h1, h2⟩ := j_mlG b hb
    exact ⟨h0.symm, h1.symm, h2.symm⟩
  · show ((0 : Int32) ≤ 0 ∧ (0 : Int32) ≤ 9999) ∧ (-50 ≤ (0 : Int32) ∧ (0 : Int32) ≤ 50) ∧ (500 ≤ j_set 0 ∧ j_set 0 ≤ 1000) ∧ (1 ≤ j_set 1 ∧ j_set 1 ≤ 999) ∧ (0 ≤ j_set 2 ∧ j_set 2 ≤ 50) ∧ (1 ≤ j_set 3 ∧ j_set 3 ≤ 30) ∧ (1 ≤ j_set 4 ∧ j_set 4 ≤ 99)
    decide
  · show 500 ≤ (800 : Int32) ∧ (800 : Int32) ≤ 1000
    decide
theorem j_T0 (xs : Nat → Int32) (L : Nat) : r_T (j_M xs L) (j_M xs L) 0 0 0 0 := by
  refine ⟨⟨by decide, rfl, rfl⟩, ⟨fun i hi => ?_, fun i k hi hk e => ?_⟩, fun j _ c _ => ?_, j_C0 xs L, fun t _ => ⟨rfl, fun h => absurd rfl h⟩, fun i hi => absurd hi (Nat.not_lt_zero _), ⟨⟨by decide, rfl, rfl⟩, fun i hi => absurd hi (Nat.not_lt_zero _), fun i _ => ?_⟩, fun j _ => rfl, fun j _ => rfl⟩
  · rw [j_q xs L i hi]
    exact ⟨hi, rfl⟩
  · rw [j_q xs L i hi, j_q xs L k hk] at e
    exact e
  · show m_nok 1 0 = true
    decide
  · show m_nok 2 0 = true
    decide
