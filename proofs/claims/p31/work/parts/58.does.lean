/-! THE MODEL does an order. -/
section DOES
variable {M : m_Mem} {p N B : Nat}
/-- the order i of the list: kind k, digger d, amount g -/
def k_do (M : m_Mem) (B : Nat) (k d g : Int32) : Int32 × m_Mem :=
  if k = 99 then (if 0 < k_ms M d g then (0, M) else (1, k_st M d.toNatClampNeg g.toNatClampNeg))
  else if k = 103 then (if 0 < k_mb M d g then (0, M) else (1, k_bu M d.toNatClampNeg g))
  else if k = 109 then (if 0 < M 16 0 0 2 ∧ B < 12 then (1, k_me M B) else (0, M))
  else if k = 119 then (if 0 < k_mw M d g then (0, M) else (1, k_wi M d.toNatClampNeg (M 16 0 0 (13 + 8 * d.toNatClampNeg + 2)).toNatClampNeg g))
  else (if M 16 0 0 0 = 9999 then (0, M) else (1, k_dy M))
end DOES
