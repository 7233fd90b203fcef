/-! CAMP, the worst, the least, the safe; the share; the hashes. -/
def f_wo (M : m_Mem) (j : Nat) : Nat → Int32 × Int32
  | 0 => (-1, 0)
  | n + 1 => if (f_wo M j n).2 < f_loss M j n then (nI n, f_loss M j n) else f_wo M j n
def f_lf (M : m_Mem) (j : Nat) : Nat → Int32
  | 0 => -1
  | n + 1 => if M 13 j n 1 = -1 then f_lf M j n else if f_lf M j n = -1 ∨ M 13 j n 0 < f_lf M j n then M 13 j n 0 else f_lf M j n
def f_ss (M : m_Mem) (j : Nat) (w t s : Int32) : Int32 := if t + s ≤ 1000 ∧ f_price M j 1000 (t + s) ≤ w then t + s else t
def f_st (M : m_Mem) (j : Nat) (w : Int32) : Int32 :=
  let s := f_ss M j w
  s (s (s (s (s (s (s (s (s 499 256) 128) 64) 32) 16) 8) 4) 2) 1
def f_sf (M : m_Mem) (j : Nat) : Int32 := if f_lf M j 10 = -1 then -1 else if 500 ≤ f_st M j (f_worth M j (f_lf M j 10)) then f_st M j (f_worth M j (f_lf M j 10)) else -1
def f_sh (M : m_Mem) (j N : Nat) : UInt64 := if 0 < f_tot M j 3 N then FP.ddiv (FP.i2d (f_tot M j 4 N)) (FP.i2d (f_tot M j 3 N)) else FP.dconst0
def f_h (h : Int64) (xs : Nat → Int32) : Nat → Int64
  | 0 => h
  | n + 1 => 31 * f_h h xs n + (xs n).toInt64