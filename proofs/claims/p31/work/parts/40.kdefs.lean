/-! THE MODEL: its accessors, in equations. Its place is (15,0,0), its numbers (16,0,0). -/
theorem nI_mul (a b : Nat) : nI a * nI b = nI (a * b) := (Int32.ofNat_mul a b).symm
theorem g_x8 (d : Nat) : (8 : Int32) * nI d = nI (8 * d) := nI_mul 8 d
theorem g_x6 (d : Nat) : (6 : Int32) * nI d = nI (6 * d) := nI_mul 6 d
theorem g_x3 (d : Nat) : (3 : Int32) * nI d = nI (3 * d) := nI_mul 3 d
theorem g_x173 (d : Nat) : (173 : Int32) * nI d = nI (173 * d) := nI_mul 173 d
theorem g_a13 (d : Nat) : (13 : Int32) + nI d = nI (13 + d) := nI_add 13 d
theorem g_a77 (d : Nat) : (77 : Int32) + nI d = nI (77 + d) := nI_add 77 d
theorem g_a137 (d : Nat) : (137 : Int32) + nI d = nI (137 + d) := nI_add 137 d
theorem g_a8 (d : Nat) : (8 : Int32) + nI d = nI (8 + d) := nI_add 8 d
/-- 1 if v is one of the first n -/
def f_is (v n : Int32) : Int32 := if 0 ≤ v ∧ v < n then 1 else 0
def k_told (M : m_Mem) (g : Int32) : Int32 := g * (1000 + M 16 0 0 6) / 1000
def k_price (M : m_Mem) (g f : Int32) : Int32 := k_told M g * f / 1000 * M 16 0 0 9 / 10
def k_fee (M : m_Mem) (p : Int32) : Int32 := M 16 0 0 10 * p / 100
def k_pays (M : m_Mem) (g : Int32) : Int32 := k_price M g (M 16 0 0 8) - k_fee M (k_price M g (M 16 0 0 8))
def k_worth (M : m_Mem) (f : Int32) : Int32 := f * M 16 0 0 9 / 10
/-! THE MODEL: what its operations do. -/
theorem f_is_c (v n : Int32) : f_is v n = 1 ∨ f_is v n = 0 := by
  unfold f_is
  split
  · exact Or.inl rfl
  · exact Or.inr rfl
theorem f_is1 {v : Int32} {N : Nat} (hN : N < 2 ^ 31) (h : f_is v (nI N) = 1) : ∃ d, d < N ∧ v = nI d := by
  unfold f_is at h
  split at h
  · rename_i q
    exact nI_below q.1 q.2 hN
  · exact absurd h (by decide)
section MODEL
variable {M : m_Mem} {N : Nat}
def k_lk (M : m_Mem) (d : Nat) (c : Int32) : Int32 := if M 16 0 0 (13 + 8 * d + 0) < c then c - M 16 0 0 (13 + 8 * d + 0) else 0
def k_bu (M : m_Mem) (d : Nat) (g : Int32) : m_Mem :=
  let M1 := m_set M 16 0 0 (13 + 8 * d + 0) (M 16 0 0 (13 + 8 * d + 0) + (k_lk M d g - g))
  let M2 := m_set M1 16 0 0 (13 + 8 * d + 1) (M1 16 0 0 (13 + 8 * d + 1) + k_lk M d g)
  m_set M2 16 0 0 (13 + 8 * d + 7) (M2 16 0 0 (13 + 8 * d + 7) + g)
end MODEL
/-! THE MODEL: weighing, melting, a day. -/
section MODEL2
variable {M : m_Mem} {N : Nat}
/-- what weighing writes -/
def k_wi (M : m_Mem) (d c : Nat) (g : Int32) : m_Mem :=
  let p := k_price M g (M 16 0 0 8)
  let y := k_pays M g
  let t := if y / 2 < M 16 0 0 (13 + 8 * d + 1) then y / 2 else M 16 0 0 (13 + 8 * d + 1)
  let f := g * M 16 0 0 (77 + 6 * c + 0) / 1000
  let ad := fun (M : m_Mem) (i : Nat) (v : Int32) => m_set M 16 0 0 i (M 16 0 0 i + v)
  let M1 := ad (ad (ad (ad (ad (ad M (13 + 8 * d + 0) (y - t)) (13 + 8 * d + 1) (-t)) (13 + 8 * d + 3) g) (13 + 8 * d + 4) f) (13 + 8 * d + 5) y) (13 + 8 * d + 6) (p - y)
  let M2 := ad M1 (77 + 6 * c + 3) g
  let M3 := m_set M2 16 0 0 (77 + 6 * c + 5) 1
  let M4 := ad (ad (ad (ad M3 2 g) 3 f) 4 p) 7 1
  ad M4 6 (if M4 16 0 0 7 - M4 16 0 0 7 / M4 16 0 0 12 * M4 16 0 0 12 = 0 ∧ M4 16 0 0 6 < 50 then 1 else 0)
def k_mt (M : m_Mem) (b : Nat) : Nat → m_Mem
  | 0 => M
  | i + 1 => m_set (m_set (k_mt M b i) 16 0 0 (137 + 3 * b + i) (k_mt M b i 16 0 0 (2 + i))) 16 0 0 (2 + i) 0
def k_me (M : m_Mem) (b : Nat) : m_Mem := m_set (k_mt M b 3) 16 0 0 5 (k_mt M b 3 16 0 0 5 + 1)
end MODEL2
/-! THE MODEL: the end of a day; its own methods. -/
def k_id (M : m_Mem) (c : Nat) : Int32 := if M 16 0 0 (77 + 6 * c + 5) = 1 then 0 else M 16 0 0 (77 + 6 * c + 2) + 1
def k_fr (M : m_Mem) (d c : Nat) : m_Mem := m_set (m_set (m_set M 16 0 0 (13 + 8 * d + 2) (-1)) 16 0 0 (77 + 6 * c + 1) (-1)) 16 0 0 (77 + 6 * c + 2) 0
def k_p1 (M : m_Mem) (c : Nat) : m_Mem :=
  m_set (if M 16 0 0 (77 + 6 * c + 1) < 0 then M else
    let Ma := m_set M 16 0 0 (77 + 6 * c + 2) (k_id M c)
    if k_id M c < Ma 16 0 0 11 then Ma else
      let Mb := k_fr Ma (M 16 0 0 (77 + 6 * c + 1)).toNatClampNeg c
      m_set Mb 16 0 0 (77 + 6 * c + 4) (Mb 16 0 0 (77 + 6 * c + 4) + 1)) 16 0 0 (77 + 6 * c + 5) 0
def k_l1 (M : m_Mem) (c : Nat) : Int32 := if M 16 0 0 (77 + 6 * c + 1) < 0 then 0 else if k_id M c < M 16 0 0 11 then 0 else 1
def k_pn (M : m_Mem) : Nat → m_Mem
  | 0 => M
  | n + 1 => k_p1 (k_pn M n) n
def k_ln (M : m_Mem) : Nat → Int32
  | 0 => 0
  | n + 1 => k_ln M n + k_l1 (k_pn M n) n
section MODEL3
variable {M : m_Mem} {N : Nat}
def k_tk (M : m_Mem) : Nat → Int32
  | 0 => 0
  | n + 1 => if M 16 0 0 (77 + 6 * n + 1) < 0 then k_tk M n + 0 else k_tk M n + 1
end MODEL3
/-! THE MODEL's own methods. -/
section MAPI
variable {M : m_Mem} {p N B : Nat}
def k_dg (M : m_Mem) (d : Nat) : Nat → m_Mem
  | 0 => M
  | i + 1 => m_set (k_dg M d i) 16 0 0 (13 + 8 * d + i) (if i = 2 then -1 else 0)
def k_ms (M : m_Mem) (d c : Int32) : Int32 := if f_is d (M 16 0 0 1) = 0 then 1 else if f_bw c 0 9 = 0 then 2 else if 0 ≤ M 16 0 0 (13 + 8 * d.toNatClampNeg + 2) ∨ 0 ≤ M 16 0 0 (77 + 6 * c.toNatClampNeg + 1) then 3 else 0
def k_st (M : m_Mem) (d c : Nat) : m_Mem := m_set (m_set (m_set (m_set M 16 0 0 (13 + 8 * d + 2) (nI c)) 16 0 0 (77 + 6 * c + 1) (nI d)) 16 0 0 (77 + 6 * c + 2) 0) 16 0 0 (77 + 6 * c + 5) 0
theorem k_ms_c (d c : Int32) : 0 < k_ms M d c ∨ k_ms M d c = 0 := by
  unfold k_ms
  split
  · exact Or.inl (by decide)
  · split
    · exact Or.inl (by decide)
    · split
      · exact Or.inl (by decide)
      · exact Or.inr rfl
end MAPI
/-! THE MODEL's own methods, on. -/
section MAPI2
variable {M : m_Mem} {p N B : Nat}
def k_mw (M : m_Mem) (d g : Int32) : Int32 := if f_is d (M 16 0 0 1) = 0 then 1 else if f_bw g 1 9999 = 0 then 2 else if M 16 0 0 (13 + 8 * d.toNatClampNeg + 2) < 0 ∨ 99999 < M 16 0 0 2 + g then 3 else 0
def k_mb (M : m_Mem) (d g : Int32) : Int32 := if f_is d (M 16 0 0 1) = 0 then 1 else if f_bw g 1 9999 = 0 then 2 else if 5000 < M 16 0 0 (13 + 8 * d.toNatClampNeg + 1) + k_lk M d.toNatClampNeg g then 3 else 0
theorem k_mw_c (d g : Int32) : 0 < k_mw M d g ∨ k_mw M d g = 0 := by
  unfold k_mw
  split
  · exact Or.inl (by decide)
  · split
    · exact Or.inl (by decide)
    · split
      · exact Or.inl (by decide)
      · exact Or.inr rfl
theorem k_mb_c (d g : Int32) : 0 < k_mb M d g ∨ k_mb M d g = 0 := by
  unfold k_mb
  split
  · exact Or.inl (by decide)
  · split
    · exact Or.inl (by decide)
    · split
      · exact Or.inl (by decide)
      · exact Or.inr rfl
end MAPI2
/-! THE MODEL: what is asked of it. -/
section MAPI4
variable {M : m_Mem} {p N B : Nat}
def k_lost (M : m_Mem) (d : Nat) : Int32 := M 16 0 0 (13 + 8 * d + 5) + M 16 0 0 (13 + 8 * d + 6) - k_worth M (M 16 0 0 (13 + 8 * d + 4))
def k_dp (M : m_Mem) (d k : Nat) : Int32 := if k < 8 then M 16 0 0 (13 + 8 * d + k) else if 0 < k_lost M d then 1 else 0
def k_bp (M : m_Mem) (b k : Nat) : Int32 := match k with
  | 0 => M 16 0 0 (137 + 3 * b + 0)
  | 1 => M 16 0 0 (137 + 3 * b + 1)
  | 2 => 1000 * M 16 0 0 (137 + 3 * b + 1) / M 16 0 0 (137 + 3 * b + 0)
  | 3 => M 16 0 0 (137 + 3 * b + 2)
  | _ => k_worth M (M 16 0 0 (137 + 3 * b + 1))
theorem f_is_has (v : Int32) (N L : Nat) (hN : N ≤ L) (hL : L < 2 ^ 31) : f_is v (nI N) = f_has v (nI N) (nI L) := by
  unfold f_is f_has
  by_cases h : 0 ≤ v ∧ v < nI N
  · rw [if_pos h, if_pos ⟨h.1, h.2, Int32.lt_of_lt_of_le h.2 (nI_le hN hL)⟩]
  · rw [if_neg h, if_neg (fun q => h ⟨q.1, q.2.1⟩)]
def k_tot (M : m_Mem) (k : Nat) : Nat → Int32
  | 0 => 0
  | n + 1 => k_tot M k n + M 16 0 0 (13 + 8 * n + k)
def k_fib (M : m_Mem) : Nat → Int32
  | 0 => M 16 0 0 3
  | n + 1 => k_fib M n + M 16 0 0 (137 + 3 * n + 1)
def k_num (M : m_Mem) (p N B k : Nat) : Int32 := match k with
  | 0 => M 16 0 0 0
  | 1 => M 16 0 0 1
  | 2 => k_tk M 10
  | 3 => M 16 0 0 2
  | 4 => M 16 0 0 3
  | 5 => M 16 0 0 5
  | 6 => M 16 0 0 6 + 50
  | 7 => M 16 0 0 7
  | 8 => k_tot M 0 N
  | 9 => k_tot M 1 N
  | 10 => k_tot M 5 N
  | 11 => k_tot M 6 N
  | 12 => k_tot M 7 N
  | 13 => k_fib M B
  | 14 => k_tot M 4 N
  | 15 => k_tot M 0 N + k_tot M 7 N - k_tot M 1 N
  | _ => nI p
end MAPI4
