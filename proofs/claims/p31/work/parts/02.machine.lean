/-! THE PURE MACHINE. A method's code is run over a memory of ints: place (kind, number, index) and slot; references are codes of places. -/
abbrev m_Mem : Type := Nat → Nat → Nat → Nat → Int32
def m_set (M : m_Mem) (a b c k : Nat) (v : Int32) : m_Mem := fun a' b' c' k' => if a' = a ∧ b' = b ∧ c' = c ∧ k' = k then v else M a' b' c' k'
def m_nb (x : Int32) : Int32 := vp_nar .boolean x
def m_nc (x : Int32) : Int32 := vp_nar .char x
-- codes of places
def m_tz : Nat → Nat → Nat
  | 0, _ => 0
  | f + 1, n => if n % 2 = 1 then 0 else m_tz f (n / 2) + 1
theorem m_tz_s : ∀ (b f c : Nat), b < f → m_tz f (2 ^ b * (2 * c + 1)) = b
  | _, 0, _, h => absurd h (Nat.not_lt_zero _)
  | 0, f + 1, c, _ => by
    unfold m_tz
    rw [if_pos (by omega)]
  | b + 1, f + 1, c, h => by
    have e : 2 ^ (b + 1) * (2 * c + 1) = 2 * (2 ^ b * (2 * c + 1)) := by rw [Nat.pow_succ, Nat.mul_comm (2 ^ b) 2, Nat.mul_assoc]
    unfold m_tz
    rw [e, if_neg (by omega), Nat.mul_div_cancel_left _ (by omega), m_tz_s b f c (by omega)]
theorem m_tz_n (b c : Nat) : m_tz (2 ^ b * (2 * c + 1)) (2 ^ b * (2 * c + 1)) = b :=
  m_tz_s b _ c (Nat.lt_of_lt_of_le (Nat.lt_two_pow_self) (Nat.le_mul_of_pos_right _ (by omega)))
theorem m_codes : ∃ (lc : Nat → Nat → Nat → Nat) (ka kb kc : Nat → Nat), ∀ a b c, ka (lc a b c) = a ∧ kb (lc a b c) = b ∧ kc (lc a b c) = c := by
  have h2 : ∀ b c, (2 ^ b * (2 * c + 1)) / 2 ^ (m_tz (2 ^ b * (2 * c + 1)) (2 ^ b * (2 * c + 1))) / 2 = c := by
    intro b c
    rw [m_tz_n, Nat.mul_div_cancel_left _ (Nat.two_pow_pos b)]
    omega
  refine ⟨fun a b c => 2 ^ a * (2 * (2 ^ b * (2 * c + 1)) + 1), fun n => m_tz n n, fun n => m_tz (n / 2 ^ (m_tz n n) / 2) (n / 2 ^ (m_tz n n) / 2),
    fun n => (n / 2 ^ (m_tz n n) / 2) / 2 ^ (m_tz (n / 2 ^ (m_tz n n) / 2) (n / 2 ^ (m_tz n n) / 2)) / 2, fun a b c => ⟨m_tz_n _ _, ?_, ?_⟩⟩
  · show m_tz _ _ = b
    rw [h2, m_tz_n]
  · show _ / _ / _ = c
    rw [h2, h2]
noncomputable def m_lc : Nat → Nat → Nat → Nat := Classical.choose m_codes
noncomputable def m_ka : Nat → Nat := Classical.choose (Classical.choose_spec m_codes)
noncomputable def m_kb : Nat → Nat := Classical.choose (Classical.choose_spec (Classical.choose_spec m_codes))
noncomputable def m_kc : Nat → Nat := Classical.choose (Classical.choose_spec (Classical.choose_spec (Classical.choose_spec m_codes)))
theorem m_code_s (a b c : Nat) : m_ka (m_lc a b c) = a ∧ m_kb (m_lc a b c) = b ∧ m_kc (m_lc a b c) = c := Classical.choose_spec (Classical.choose_spec (Classical.choose_spec (Classical.choose_spec m_codes))) a b c
theorem m_ka_s (a b c : Nat) : m_ka (m_lc a b c) = a := (m_code_s a b c).1
theorem m_kb_s (a b c : Nat) : m_kb (m_lc a b c) = b := (m_code_s a b c).2.1
theorem m_kc_s (a b c : Nat) : m_kc (m_lc a b c) = c := (m_code_s a b c).2.2
-- locals
def m_lg : List (Option Value) → Nat → Option Value
  | [], _ => none
  | o :: _, 0 => o
  | _ :: t, n + 1 => m_lg t n
def m_kill : Option Value → Option Value
  | some (.long _) => none
  | some (.double _) => none
  | o => o
def m_put : List (Option Value) → Nat → Option Value → List (Option Value)
  | [], _, _ => []
  | _ :: t, 0, x => x :: t
  | o :: t, n + 1, x => o :: m_put t n x
def m_st1 : List (Option Value) → Nat → Value → List (Option Value)
  | [], _, _ => []
  | _ :: t, 0, v => some v :: t
  | o :: [], _ + 1, _ => [o]
  | o :: _ :: t, 1, v => m_kill o :: some v :: t
  | o :: p :: t, n + 2, v => o :: m_st1 (p :: t) (n + 1) v
def m_st2 (pl : List (Option Value)) (i : Nat) (v : Value) : List (Option Value) := m_put (m_st1 pl i v) (i + 1) none
def m_nones : Nat → List (Option Value)
  | 0 => []
  | n + 1 => none :: m_nones n
def m_ent : List Value → Nat → List (Option Value)
  | [], n => m_nones n
  | .long x :: t, n => some (.long x) :: none :: m_ent t (n - 2)
  | .double x :: t, n => some (.double x) :: none :: m_ent t (n - 2)
  | v :: t, n => some v :: m_ent t (n - 1)
def m_sz : List Value → Nat
  | [] => 0
  | .long _ :: t => m_sz t + 2
  | .double _ :: t => m_sz t + 2
  | _ :: t => m_sz t + 1
-- the stack
def m_pI : List Value → Option (Int32 × List Value)
  | .int x :: r => some (x, r)
  | _ => none
def m_pL : List Value → Option (Int64 × List Value)
  | .long x :: r => some (x, r)
  | _ => none
def m_pD : List Value → Option (UInt64 × List Value)
  | .double x :: r => some (x, r)
  | _ => none
def m_pR : List Value → Option (Nat × List Value)
  | .ref x :: r => some (x, r)
  | _ => none
def m_p1 : List Value → Option (Value × List Value)
  | .long _ :: _ => none
  | .double _ :: _ => none
  | v :: r => some (v, r)
  | [] => none
def m_take : Nat → List Value → Option (List Value × List Value)
  | 0, st => some ([], st)
  | _ + 1, [] => none
  | n + 1, v :: r => match m_take n r with
    | some (as, q) => some (v :: as, q)
    | none => none
def m_vI : Option Value → Option Int32
  | some (.int x) => some x
  | _ => none
def m_vL : Option Value → Option Int64
  | some (.long x) => some x
  | _ => none
def m_vD : Option Value → Option UInt64
  | some (.double x) => some x
  | _ => none
def m_vR : Option Value → Option Nat
  | some (.ref x) => some x
  | _ => none
theorem m_pI_s {st r : List Value} {x : Int32} (h : m_pI st = some (x, r)) : st = .int x :: r := by
  unfold m_pI at h
  split at h
  · cases h; rfl
  · cases h
theorem m_pL_s {st r : List Value} {x : Int64} (h : m_pL st = some (x, r)) : st = .long x :: r := by
  unfold m_pL at h
  split at h
  · cases h; rfl
  · cases h
theorem m_pD_s {st r : List Value} {x : UInt64} (h : m_pD st = some (x, r)) : st = .double x :: r := by
  unfold m_pD at h
  split at h
  · cases h; rfl
  · cases h
theorem m_pR_s {st r : List Value} {x : Nat} (h : m_pR st = some (x, r)) : st = .ref x :: r := by
  unfold m_pR at h
  split at h
  · cases h; rfl
  · cases h
theorem m_p1_s {st r : List Value} {x : Value} (h : m_p1 st = some (x, r)) : st = x :: r ∧ x.category = 1 := by
  unfold m_p1 at h
  split at h
  · cases h
  · cases h
  · rename_i v r' h1 h2
    cases h
    refine ⟨rfl, ?_⟩
    cases x <;> first | rfl | exact (h1 _ rfl).elim | exact (h2 _ rfl).elim
  · cases h
theorem m_take_s : ∀ (n : Nat) (st as q : List Value), m_take n st = some (as, q) → st = as ++ q ∧ as.length = n
  | 0, st, as, q, h => by
    unfold m_take at h
    cases h
    exact ⟨rfl, rfl⟩
  | n + 1, [], as, q, h => by
    unfold m_take at h
    cases h
  | n + 1, v :: r, as, q, h => by
    unfold m_take at h
    cases h2 : m_take n r with
    | none => rw [h2] at h; cases h
    | some w =>
      obtain ⟨as2, q2⟩ := w
      rw [h2] at h
      obtain ⟨e1, e2⟩ := m_take_s n r as2 q2 h2
      cases h
      exact ⟨by rw [e1]; rfl, by rw [List.length_cons, e2]⟩
theorem m_vI_s {o : Option Value} {x : Int32} (h : m_vI o = some x) : o = some (.int x) := by
  unfold m_vI at h
  split at h
  · cases h; rfl
  · cases h
theorem m_vL_s {o : Option Value} {x : Int64} (h : m_vL o = some x) : o = some (.long x) := by
  unfold m_vL at h
  split at h
  · cases h; rfl
  · cases h
theorem m_vD_s {o : Option Value} {x : UInt64} (h : m_vD o = some x) : o = some (.double x) := by
  unfold m_vD at h
  split at h
  · cases h; rfl
  · cases h
theorem m_vR_s {o : Option Value} {x : Nat} (h : m_vR o = some x) : o = some (.ref x) := by
  unfold m_vR at h
  split at h
  · cases h; rfl
  · cases h
