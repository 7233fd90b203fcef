/-! CAMP, the hash of its rows. -/
theorem f_h_add (h : Int64) (xs : Nat → Int32) (a : Nat) : ∀ b, f_h (f_h h xs a) (fun i => xs (a + i)) b = f_h h xs (a + b)
  | 0 => rfl
  | b + 1 => by
    show 31 * f_h (f_h h xs a) (fun i => xs (a + i)) b + (xs (a + b)).toInt64 = _
    rw [f_h_add h xs a b]
    rfl
theorem f_h_cg (h : Int64) {xs ys : Nat → Int32} : ∀ n, (∀ i, i < n → xs i = ys i) → f_h h xs n = f_h h ys n
  | 0, _ => rfl
  | n + 1, e => by
    show 31 * f_h h xs n + (xs n).toInt64 = 31 * f_h h ys n + (ys n).toInt64
    rw [f_h_cg h n (fun i hi => e i (by omega)), e n (by omega)]
/-- rows of K numbers -/
def f_row (f : Nat → Nat → Int32) (K : Nat) : Nat → Int32 := fun i => f (i / K) (i % K)
theorem f_row_s (h : Int64) (f : Nat → Nat → Int32) (K n : Nat) (hK : 0 < K) : f_h (f_h h (f_row f K) (K * n)) (f n) K = f_h h (f_row f K) (K * (n + 1)) := by
  rw [show K * (n + 1) = K * n + K from rfl, ← f_h_add]
  refine f_h_cg _ K (fun i hi => ?_)
  unfold f_row
  rw [Nat.mul_add_div hK, Nat.div_eq_of_lt hi, Nat.mul_add_mod, Nat.mod_eq_of_lt hi, Nat.add_zero]
def f_dp (M : m_Mem) (j d k : Nat) : Int32 := if k = 8 then (if 0 < f_loss M j d then 1 else 0) else M 12 j d k
def f_cpp (M : m_Mem) (j c k : Nat) : Int32 := M 13 j c (f_cp k)
def f_hr (M : m_Mem) (j N B : Nat) (h : Int64) : Int64 := f_h (f_h (f_h h (f_row (f_dp M j) 9) (9 * N)) (f_row (f_cpp M j) 5) 50) (f_row (f_bp M j) 5) (5 * B)