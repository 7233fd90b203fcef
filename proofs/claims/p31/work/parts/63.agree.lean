/-! THE AUTOMATON and the model's reading agree. -/
theorem t_go {t : Nat → Int32} {n : Nat} {s s' : Int32} (h : f_stt t n = s) (hs : s ≠ -1) (hb : f_bh s (t n) = s') : f_stt t (n + 1) = s' := by
  show (if f_stt t n = -1 then -1 else f_bh (f_stt t n) (t n)) = s'
  rw [h, if_neg hs, hb]
theorem t_stk {t : Nat → Int32} {n : Nat} (h : f_stt t n = -1) : ∀ k, f_stt t (n + k) = -1
  | 0 => h
  | k + 1 => if_pos (t_stk h k)
theorem t_bt {c : Int32} {lo hi : Nat} (h1 : nI lo ≤ c) (h2 : c ≤ nI hi) (hh : hi < 2 ^ 31) (hlo : lo < 2 ^ 31) : ∃ k, k ≤ hi - lo ∧ lo ≤ hi ∧ c = nI (lo + k) := by
  obtain ⟨k, k1, rfl⟩ := nI_upto (Int32.le_trans (nI_pos' hlo) h1) h2 hh
  have := (nI_leI (a := lo) hlo (by omega)).mp h1
  exact ⟨k - lo, by omega, by omega, congrArg nI (by omega)⟩
theorem t_dg1 {c : Int32} : f_dg c = 1 ↔ 48 ≤ c ∧ c ≤ 57 := by
  unfold f_dg
  by_cases h : 48 ≤ c ∧ c ≤ 57
  · rw [if_pos h]; exact ⟨fun _ => h, fun _ => rfl⟩
  · rw [if_neg h]; exact ⟨fun q => absurd q (by decide), fun q => (h q).elim⟩
theorem t_dig {c : Int32} (h : 48 ≤ c ∧ c ≤ 57) : ∃ k, k ≤ 9 ∧ c = nI (48 + k) := by
  obtain ⟨k, k1, -, k2⟩ := t_bt (lo := 48) (hi := 57) h.1 h.2 (by decide) (by decide)
  exact ⟨k, k1, k2⟩
theorem b0m {c : Int32} (h : 109 ≤ c ∧ c ≤ 110) : f_bh 0 c = 7 ∧ f_dg c = 0 ∧ (c = 109 ∨ c = 110) := by
  obtain ⟨k, k1, -, rfl⟩ := t_bt (lo := 109) (hi := 110) h.1 h.2 (by decide) (by decide)
  have key : ∀ k, k ≤ 1 → f_bh 0 (nI (109 + k)) = 7 ∧ f_dg (nI (109 + k)) = 0 ∧ (nI (109 + k) = 109 ∨ nI (109 + k) = 110) := by decide +kernel
  exact key k k1
theorem b0d {c : Int32} (h : 48 ≤ c ∧ c ≤ 55) : f_bh 0 c = 1 ∧ f_dg c = 1 := by
  obtain ⟨k, k1, -, rfl⟩ := t_bt (lo := 48) (hi := 55) h.1 h.2 (by decide) (by decide)
  have key : ∀ k, k ≤ 7 → f_bh 0 (nI (48 + k)) = 1 ∧ f_dg (nI (48 + k)) = 1 := by decide +kernel
  exact key k k1
theorem b0x {c : Int32} (h1 : ¬ (109 ≤ c ∧ c ≤ 110)) (h2 : ¬ (48 ≤ c ∧ c ≤ 55)) : f_bh 0 c = -1 := by
  unfold f_bh
  rw [if_pos rfl, if_neg, if_neg h2]
  rintro (rfl | rfl)
  · exact h1 (by decide)
  · exact h1 (by decide)
theorem b1x {c : Int32} (h1 : c ≠ 99) (h2 : c ≠ 119) (h3 : c ≠ 103) : f_bh 1 c = -1 := by
  unfold f_bh
  rw [if_neg (by decide), if_pos rfl, if_neg (fun q => q.elim h2 h3), if_neg h1]
theorem b2 (c : Int32) : f_bh 2 c = if f_dg c = 1 then 7 else -1 := by
  unfold f_bh
  rw [if_neg (by decide), if_neg (by decide), if_pos rfl]
theorem b3d {c : Int32} (h : 49 ≤ c ∧ c ≤ 57) : f_bh 3 c = 4 ∧ 48 ≤ c := by
  obtain ⟨k, k1, -, rfl⟩ := t_bt (lo := 49) (hi := 57) h.1 h.2 (by decide) (by decide)
  have key : ∀ k, k ≤ 8 → f_bh 3 (nI (49 + k)) = 4 ∧ 48 ≤ nI (49 + k) := by decide +kernel
  exact key k k1
theorem b3x {c : Int32} (h : ¬ (49 ≤ c ∧ c ≤ 57)) : f_bh 3 c = -1 := by
  unfold f_bh
  rw [if_neg (by decide), if_neg (by decide), if_neg (by decide), if_pos rfl, if_neg]
  rintro ⟨h1, h2⟩
  obtain ⟨k, k1, rfl⟩ := t_dig (t_dg1.mp h1)
  by_cases hk : k = 0
  · subst hk
    exact h2 rfl
  · exact h ⟨(nI_le (by omega) (by omega) : nI 49 ≤ nI (48 + k)), (nI_le (by omega) (by decide) : nI (48 + k) ≤ nI 57)⟩
theorem b4 {s : Int32} (h0 : s ≠ 0) (h1 : s ≠ 1) (h2 : s ≠ 2) (h3 : s ≠ 3) (c : Int32) : f_bh s c = if c = 59 then 0 else if f_dg c = 1 ∧ s < 7 then s + 1 else -1 := by
  unfold f_bh
  rw [if_neg h0, if_neg h1, if_neg h2, if_neg h3]
theorem b7 (c : Int32) : f_bh 7 c = if c = 59 then 0 else -1 := by
  rw [b4 (by decide) (by decide) (by decide) (by decide), if_neg (c := f_dg c = 1 ∧ (7 : Int32) < 7) (fun q => absurd q.2 (by decide))]
/-- an order may end here: a state of its end, and what comes next -/
def t_end (t : Nat → Int32) (L a : Nat) : Prop := 4 ≤ f_stt t a ∧ (a < L → f_stt t (a + 1) = if t a = 59 then 0 else -1)
def t_nb (t : Nat → Int32) (a b : Nat) : Prop := ∀ i, a ≤ i → i ≤ b → f_stt t i ≠ -1
theorem t_nb_0 {t : Nat → Int32} {a : Nat} (h : f_stt t a ≠ -1) : t_nb t a a := fun i h1 h2 => by
  have : i = a := by omega
  subst this
  exact h
theorem t_nb_s {t : Nat → Int32} {a b : Nat} (h : f_stt t a ≠ -1) (h2 : t_nb t (a + 1) b) : t_nb t a b := fun i h3 h4 => by
  by_cases e : i = a
  · subst e
    exact h
  · exact h2 i (by omega) h4
theorem t_nb_t {t : Nat → Int32} {a b c : Nat} (h : t_nb t a b) (h2 : t_nb t (b + 1) c) : t_nb t a c := fun i h3 h4 => by
  by_cases e : i ≤ b
  · exact h i h3 e
  · exact h2 i (by omega) h4
theorem t_end7 {t : Nat → Int32} {L a : Nat} (h : f_stt t a = 7) : t_end t L a := ⟨by rw [h]; decide, fun _ => t_go h (by decide) (b7 _)⟩
theorem c_sg_lt {t : Nat → Int32} {L a : Nat} (h : a < L) : c_sg t L a = t a := if_pos h
/-- where no digit stands, the digits end -/
theorem c_dn_0 {t : Nat → Int32} {L : Nat} (f a : Nat) (v : Int32) (h : f_dg (c_sg t L a) = 0) : c_dn t L f a v = (a, v) := by
  cases f with
  | zero => rfl
  | succ f => exact if_neg (by rw [h]; decide)
theorem c_sg_59 {t : Nat → Int32} {L a : Nat} (h : a < L → t a = 59) : f_dg (c_sg t L a) = 0 := by
  unfold c_sg
  split
  · rename_i h2
    rw [h h2]
    decide
  · decide
/-- j digits so far, their number -/
def t_cn (j v : Nat) : Prop := (j = 0 ∧ v = 0) ∨ (j = 1 ∧ 1 ≤ v ∧ v ≤ 9) ∨ (j = 2 ∧ 10 ≤ v ∧ v ≤ 99) ∨ (j = 3 ∧ 100 ≤ v ∧ v ≤ 999)
theorem t_num {v k : Nat} : 10 * nI v + nI (48 + k) - 48 = nI (10 * v + k) ∧ 10 * nI v + (nI (48 + k) - 48) = nI (10 * v + k) := by
  have e0 : (10 : Int32) * nI v = nI (10 * v) := nI_mul 10 v
  have e1 : nI (48 + k) - 48 = nI k := by
    have := nI_subs (a := 48 + k) (b := 48) (by omega)
    rw [Nat.add_sub_cancel_left] at this
    exact this
  constructor
  · rw [e0, nI_add]
    have := nI_subs (a := 10 * v + (48 + k)) (b := 48) (by omega)
    rw [show 10 * v + (48 + k) - 48 = 10 * v + k by omega] at this
    exact this
  · rw [e0, e1, nI_add]
theorem t_s4 : ∀ j, j ≤ 3 → nI (4 + j) ≠ 0 ∧ nI (4 + j) ≠ 1 ∧ nI (4 + j) ≠ 2 ∧ nI (4 + j) ≠ 3 ∧ nI (4 + j) ≠ -1 ∧ 4 ≤ nI (4 + j) ∧ nI (3 + j) ≠ -1 := by decide +kernel
theorem t_s3 : ∀ j, j ≤ 3 → 1 ≤ j → nI (3 + j) ≠ 0 ∧ nI (3 + j) ≠ 1 ∧ nI (3 + j) ≠ 2 ∧ nI (3 + j) ≠ 3 ∧ nI (3 + j) < 7 ∧ nI (3 + j) + 1 = nI (4 + j) := by decide +kernel
/-- what the class reads at a, where an order ends at b: k, d, g -/
def t_red (t : Nat → Int32) (L a b : Nat) (k d g : Int32) : Prop := (c_n t L a).1 = b ∧ c_sg t L (c_a1 t L a) = k ∧ ((k = 109 ∨ k = 110) ∨ ((k = 119 ∨ k = 99 ∨ k = 103) ∧ c_d t L a = d ∧ (c_n t L a).2 = g))