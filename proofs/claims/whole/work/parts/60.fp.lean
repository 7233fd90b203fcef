/-! DOUBLES from 0 to 1: what bitsOfShare tells of them. -/
theorem d_val {a : UInt64} {E T : Nat} (hE : 1 ≤ E) (hE2 : E ≤ 2046) (hT : T < 2 ^ 52) (h : a.toNat = E * 2 ^ 52 + T) : FP.Core.val64 a = .fin false (2 ^ 52 + T) (-1074 + ((E : Int) - 1)) := by
  have he : FP.Core.b64.exps = 2048 := by decide
  have e : a.toNat = FP.Core.assemble FP.Core.b64 false E T := by
    unfold FP.Core.assemble
    rw [FP.Core.tails_b64, h]
    show _ = (0 * _ + E) * _ + T
    rw [Nat.zero_mul, Nat.zero_add]
  show FP.Core.decode FP.Core.b64 a.toNat = _
  rw [e, FP.Core.decode_assemble _ _ _ _ (by rw [he]; omega) (by rw [FP.Core.tails_b64]; exact hT), he, if_neg (by omega), if_neg (by omega), FP.Core.tails_b64, FP.Core.qmin_b64]
theorem d_nn {a : UInt64} (h : a.toNat % 2 ^ 63 ≤ 9218868437227405312) : a &&& 0x7fffffffffffffff ≤ 0x7ff0000000000000 := by
  rw [UInt64.le_iff_toNat_le, FP.Core.mask_toNat]
  exact h
theorem d_two : FP.Core.val64 4611686018427387904 = .fin false (2 ^ 52) (-51) := by decide +kernel
theorem d_p52 : FP.Core.val64 (FP.l2d 4503599627370496) = .fin false (2 ^ 52) 0 := by decide +kernel
theorem d_rnd {A c : Nat} {e q : Int} (h1 : 2 ^ 52 ≤ c) (h2 : c < 2 ^ 53) (h3 : -1074 ≤ q) (h4 : q ≤ 971) (h : A * 2 ^ (e - q).toNat = c * 1 * 2 ^ (q - e).toNat) : FP.Core.round FP.Core.b64 (.fin false A e) = .fin false c q := by
  show FP.Core.roundRatio FP.Core.b64 false A 1 e = _
  refine FP.Core.roundRatio_exact FP.Core.good_b64 (by decide) ⟨h2, ?_, ?_, Or.inr ?_⟩ h
  · rw [FP.Core.qmin_b64]; exact h3
  · have : FP.Core.b64.qmax = 971 := by decide
    rw [this]; exact h4
  · rw [FP.Core.tails_b64]; exact h1
theorem d_dbl {a : UInt64} {E T : Nat} (hE : 1 ≤ E) (hE2 : E ≤ 1022) (hT : T < 2 ^ 52) (h : a.toNat = E * 2 ^ 52 + T) : (FP.dmul a 4611686018427387904).toNat = (E + 1) * 2 ^ 52 + T := by
  have hb : (UInt64.ofNat ((E + 1) * 2 ^ 52 + T)).toNat = (E + 1) * 2 ^ 52 + T := UInt64.toNat_ofNat_of_lt' (by show _ < 2 ^ 64; omega)
  have v2 := d_val (a := UInt64.ofNat ((E + 1) * 2 ^ 52 + T)) (by omega : 1 ≤ E + 1) (by omega) hT hb
  have v1 : FP.Core.val64 (FP.dmul a 4611686018427387904) = .fin false (2 ^ 52 + T) (-1074 + (((E + 1 : Nat) : Int) - 1)) := by
    show FP.Core.val64 (FP.Core.dmul _ _) = _
    rw [FP.Core.val64_dmul, d_val hE (by omega) hT h, d_two]
    show FP.Core.round FP.Core.b64 (.fin false ((2 ^ 52 + T) * 2 ^ 52) (-1074 + ((E : Int) - 1) + -51)) = _
    refine d_rnd (by omega) (by omega) (by omega) (by omega) ?_
    rw [show (-1074 + ((E : Int) - 1) + -51 - (-1074 + (((E + 1 : Nat) : Int) - 1))).toNat = 0 by omega, show (-1074 + (((E + 1 : Nat) : Int) - 1) - (-1074 + ((E : Int) - 1) + -51)).toNat = 52 by omega]
    omega
  have e : FP.dmul a 4611686018427387904 = UInt64.ofNat ((E + 1) * 2 ^ 52 + T) := FP.Core.val64_inj (by rw [v1]; exact FP.Core.Datum.noConfusion) (v1.trans v2.symm)
  rw [e, hb]
theorem d_lst {a : UInt64} {T : Nat} (hT : T < 2 ^ 52) (h : a.toNat = 1023 * 2 ^ 52 + T) : FP.d2l (FP.dmul a (FP.l2d 4503599627370496)) = Int64.ofNat (2 ^ 52 + T) ∧ (FP.dmul a (FP.l2d 4503599627370496)).toNat % 2 ^ 63 ≤ 9218868437227405312 := by
  have v1 : FP.Core.val64 (FP.dmul a (FP.l2d 4503599627370496)) = .fin false (2 ^ 52 + T) 0 := by
    show FP.Core.val64 (FP.Core.dmul _ _) = _
    rw [FP.Core.val64_dmul, d_val (by decide) (by decide) hT h, d_p52]
    show FP.Core.round FP.Core.b64 (.fin false ((2 ^ 52 + T) * 2 ^ 52) (-52 + 0)) = _
    refine d_rnd (by omega) (by omega) (by omega) (by omega) ?_
    rw [show ((-52 + 0 : Int) - 0).toNat = 0 by decide, show (0 - (-52 + 0) : Int).toNat = 52 by decide]
    omega
  constructor
  · refine FP.Core.d2l_int ?_
    unfold FP.Core.DInt
    rw [v1]
    show FP.Core.signed false ((2 ^ 52 + T) * 1) = _ * ((1 : Nat) : Int)
    have e : (Int64.ofNat (2 ^ 52 + T)).toInt = ((2 ^ 52 + T : Nat) : Int) := Int64.toInt_ofNat_of_lt (by omega)
    rw [e]
    show (((2 ^ 52 + T) * 1 : Nat) : Int) = _
    omega
  · refine (FP.Core.ne_nan _).mp ?_
    rw [v1]
    exact FP.Core.Datum.noConfusion
theorem d_one : FP.dconst1.toNat = 1023 * 2 ^ 52 := by decide
theorem d_ok {a : UInt64} (h : a.toNat ≤ 1023 * 2 ^ 52) : FP.Core.val64 a ≠ .nan := (FP.Core.ne_nan a).mpr (by omega)
theorem d_key {a : UInt64} (h : a.toNat < 2 ^ 63) : FP.Core.dkey a = (a.toNat : Int) := by
  unfold FP.Core.dkey
  rw [if_neg (by omega)]
theorem d_cmp {a b : UInt64} (ha : a.toNat < 2047 * 2 ^ 52) (hb : b.toNat < 2047 * 2 ^ 52) : FP.dcmp a b = some (compare (a.toNat : Int) (b.toNat : Int)) := by
  show FP.Core.dcmp a b = _
  rw [FP.Core.dcmp_key ((FP.Core.ne_nan a).mpr (by omega)) ((FP.Core.ne_nan b).mpr (by omega)), d_key (by omega), d_key (by omega)]
theorem d_gt0 {a : UInt64} (h1 : 2 ^ 52 ≤ a.toNat) (h2 : a.toNat ≤ 1023 * 2 ^ 52) : Op.cmpValue (FP.dcmp a FP.dconst0) CmpOp.g = 1 := by
  have z : (FP.dconst0).toNat = 0 := by decide
  rw [d_cmp (by omega) (by omega), (FP.Core.compare_gt_iff _ _).mpr (by omega)]
  rfl
theorem d_lt1 {a : UInt64} (h2 : a.toNat < 1023 * 2 ^ 52) : Op.cmpValue (FP.dcmp a FP.dconst1) CmpOp.g = -1 := by
  have z := d_one
  rw [d_cmp (by omega) (by omega), (FP.Core.compare_lt_iff _ _).mpr (by omega)]
  rfl
theorem d_ge1 {a : UInt64} (h1 : 1023 * 2 ^ 52 ≤ a.toNat) (h2 : a.toNat < 1024 * 2 ^ 52) : 0 ≤ Op.cmpValue (FP.dcmp a FP.dconst1) CmpOp.g := by
  have z := d_one
  rw [d_cmp (by omega) (by omega)]
  by_cases h : a.toNat = 1023 * 2 ^ 52
  · rw [(FP.Core.compare_eq_iff _ _).mpr (by omega)]
    decide
  · rw [(FP.Core.compare_gt_iff _ _).mpr (by omega)]
    decide
theorem d_shl : ∀ E : Nat, E < 1024 → Int64.ofNat E <<< ((52 : Int32).toInt64 &&& 63) = Int64.ofNat (E * 2 ^ 52) := by decide +kernel
theorem d_cnt : ∀ E : Nat, E < 1023 → Int64.ofNat (E + 1) - 1 = Int64.ofNat E := by decide +kernel
theorem d_lcm : ∀ E : Nat, E < 1022 → lg_cmp (Int64.ofNat (E + 2)) 1 = 1 := by decide +kernel
theorem d_bits {a : UInt64} {E T : Nat} (h : a.toNat = E * 2 ^ 52 + T) (hE : E < 1024) : Int64.ofNat E <<< ((52 : Int32).toInt64 &&& 63) + (Int64.ofNat (2 ^ 52 + T) - 4503599627370496) = a.toInt64 := by
  have ea : a = UInt64.ofNat (E * 2 ^ 52 + T) := by rw [← h, UInt64.ofNat_toNat]
  have e1 : (UInt64.ofNat (E * 2 ^ 52 + T)).toInt64 = Int64.ofNat (E * 2 ^ 52 + T) := rfl
  have e2 : (4503599627370496 : Int64) = Int64.ofNat (2 ^ 52) := by decide
  have e3 : ∀ x y : Int64, x + y - x = y := fun x y => Int64.toBitVec_inj.1 (by rw [Int64.toBitVec_sub, Int64.toBitVec_add, BitVec.add_comm, BitVec.add_sub_cancel])
  rw [d_shl E hE, ea, e1, Int64.ofNat_add, Int64.ofNat_add, e2, e3]
theorem s_bits_l {E T : Nat} (hE : 1 ≤ E) (hT : T < 2 ^ 52) (s a0 : UInt64) (h0 : a0.toNat = E * 2 ^ 52 + T) (hE3 : E ≤ 1023) (M : m_Mem) : ∀ (k : Nat) (a : UInt64), E + k ≤ 1023 → a.toNat = (1023 - k) * 2 ^ 52 + T →
    m_E 103 15 [some (.double s), none, some (.double a), none, some (.long (Int64.ofNat (E + k))), none, none, none, none, none] [] M = some (.inl (some (.long a0.toInt64)), M) := by
  intro k
  induction k with
  | zero =>
    intro a _ ha
    have h1 := d_ge1 (a := a) (by omega) (by omega)
    obtain ⟨h2, h3⟩ := d_lst hT ha
    have h4 := d_bits h0 (by omega)
    simp only [e5_bitsOfShare_15, e5_bitsOfShare_16, e5_bitsOfShare_17, e5_bitsOfShare_18, h1, if_true]
    simp only [e5_bitsOfShare_43, e5_bitsOfShare_46, e5_bitsOfShare_48, e5_bitsOfShare_49, e5_bitsOfShare_51, e5_bitsOfShare_52, e5_bitsOfShare_53, e5_bitsOfShare_54, e5_bitsOfShare_56, e5_bitsOfShare_57, e5_bitsOfShare_59, e5_bitsOfShare_61, e5_bitsOfShare_63, e5_bitsOfShare_64, e5_bitsOfShare_66, e5_bitsOfShare_67, d_nn h3, h2, h4, m_kill, Nat.add_zero]
  | succ k ih =>
    intro a hk ha
    have h1 := d_lt1 (a := a) (by omega)
    have h2 : ¬ (0 : Int32) ≤ -1 := by decide
    obtain ⟨e, rfl⟩ : ∃ e, E = e + 1 := ⟨E - 1, by omega⟩
    have h3 := d_lcm (e + k) (by omega)
    have h4 : ¬ (1 : Int32) ≤ 0 := by decide
    have h5 := d_dbl (a := a) (E := 1023 - (k + 1)) (by omega) (by omega) hT ha
    have h6 := d_cnt (e + 1 + k) (by omega)
    have h7 : (FP.dmul a 4611686018427387904).toNat % 2 ^ 63 ≤ 9218868437227405312 := by rw [h5]; omega
    have e8 : e + 1 + (k + 1) = e + k + 2 := by omega
    have e9 : e + k + 2 = e + 1 + k + 1 := by omega
    rw [e8]
    simp only [e5_bitsOfShare_15, e5_bitsOfShare_16, e5_bitsOfShare_17, e5_bitsOfShare_18, e5_bitsOfShare_21, e5_bitsOfShare_23, e5_bitsOfShare_24, e5_bitsOfShare_25, e5_bitsOfShare_28, e5_bitsOfShare_29, e5_bitsOfShare_32, e5_bitsOfShare_33, e5_bitsOfShare_34, e5_bitsOfShare_36, h1, h2, h3, h4, d_nn h7, if_false, m_kill]
    rw [e9]
    simp only [e5_bitsOfShare_37, e5_bitsOfShare_38, e5_bitsOfShare_40, h6, m_kill]
    refine ih _ (by omega) ?_
    rw [h5]
    omega
set_option maxRecDepth 100000 in
theorem s_bits {a : UInt64} (h : a = 0 ∨ (2 ^ 52 ≤ a.toNat ∧ a.toNat ≤ 1023 * 2 ^ 52)) (M : m_Mem) : m_cl 103 [.double a] M = some (.inl (some (.long a.toInt64)), M) := by
  rw [e5_bitsOfShare_en]
  rcases h with rfl | ⟨h1, h2⟩
  · have h1 : Op.cmpValue (FP.dcmp 0 FP.dconst0) CmpOp.g = 0 := by decide +kernel
    simp only [e5_bitsOfShare_0, e5_bitsOfShare_1, e5_bitsOfShare_2, e5_bitsOfShare_3, e5_bitsOfShare_6, e5_bitsOfShare_7, h1, (by decide : ¬ (0 : Int32) < 0), if_false]
    rfl
  · have h3 := d_gt0 h1 h2
    simp only [e5_bitsOfShare_0, e5_bitsOfShare_1, e5_bitsOfShare_2, e5_bitsOfShare_3, e5_bitsOfShare_6, e5_bitsOfShare_7, e5_bitsOfShare_8, e5_bitsOfShare_9, e5_bitsOfShare_10, e5_bitsOfShare_13, h3, (by decide : (0 : Int32) < 1), if_true, m_kill]
    by_cases h4 : a.toNat = 1023 * 2 ^ 52
    · exact s_bits_l (E := 1023) (T := 0) (by decide) (by decide) a a (by omega) (by decide) M 0 a (by omega) (by omega)
    · obtain ⟨q, r, hd, hr, q1, q2⟩ : ∃ q r, a.toNat = q * 2 ^ 52 + r ∧ r < 2 ^ 52 ∧ 1 ≤ q ∧ q ≤ 1022 := ⟨a.toNat / 2 ^ 52, a.toNat % 2 ^ 52, by omega, by omega, by omega, by omega⟩
      obtain ⟨k, hk⟩ : ∃ k, q + k = 1023 := ⟨1023 - q, by omega⟩
      have h5 : 1023 - k = q := by omega
      have := s_bits_l (T := r) q1 hr a a hd (by omega) M k a (by omega) (by rw [h5]; exact hd)
      rw [hk] at this
      exact this
-- a quotient of numbers
set_option maxRecDepth 100000 in
theorem d_quo {p q : Int32} (hp : 0 < p.toInt) (hq : p.toInt ≤ q.toInt) : 2 ^ 52 ≤ (FP.ddiv (FP.i2d p) (FP.i2d q)).toNat ∧ (FP.ddiv (FP.i2d p) (FP.i2d q)).toNat ≤ 1023 * 2 ^ 52 := by
  have hq2 := q.toInt_lt
  obtain ⟨s, c, q1, hx⟩ := FP.Core.i2d_fin p
  obtain ⟨t, d, r1, hy⟩ := FP.Core.i2d_fin q
  have wx := FP.Core.i2d_int p
  have wy := FP.Core.i2d_int q
  have fx := FP.Core.val64_fits (FP.Core.i2d p)
  have fy := FP.Core.val64_fits (FP.Core.i2d q)
  unfold FP.Core.DInt at wx wy
  rw [hx] at wx fx
  rw [hy] at wy fy
  have zx := FP.Core.whole_zval FP.Core.good_b64 fx wx
  have zy := FP.Core.whole_zval FP.Core.good_b64 fy wy
  have es : s = false := by rw [FP.Core.whole_sign wx (by omega)]; exact decide_eq_false (by omega)
  have et : t = false := by rw [FP.Core.whole_sign wy (by omega)]; exact decide_eq_false (by omega)
  subst es et
  have hd0 : d ≠ 0 := fun h => by have := (FP.Core.whole_zero wy).mp h; omega
  have hv : FP.Core.val64 (FP.Core.ddiv (FP.Core.i2d p) (FP.Core.i2d q)) = FP.Core.roundRatio FP.Core.b64 false c d (q1 - r1) := by
    rw [FP.Core.val64_ddiv, hx, hy]
    simp only [FP.Core.quotient, if_neg hd0]
    rfl
  have hx1 := fx.2.1
  have hy1 := fy.2.1
  have hqm := FP.Core.qmin_b64
  have e1 : FP.Core.inUnits c (q1 - r1) (2 * FP.Core.b64.qmin - r1) = FP.Core.zmag FP.Core.b64 (.fin false c q1) * 2 ^ (-FP.Core.b64.qmin).toNat := by
    show c * _ = c * _ * _
    rw [Nat.mul_assoc, ← Nat.pow_add]; congr 2; omega
  have e2 : 2 ^ (FP.Core.b64.qmin - (2 * FP.Core.b64.qmin - r1)).toNat * d = FP.Core.zmag FP.Core.b64 (.fin false d r1) := by
    show _ = d * _
    rw [Nat.mul_comm]; congr 2; omega
  have k1 : ((FP.Core.zmag FP.Core.b64 (.fin false c q1) : Nat) : Int) = p.toInt * ((2 ^ 1074 : Nat) : Int) := zx
  have k2 : ((FP.Core.zmag FP.Core.b64 (.fin false d r1) : Nat) : Int) = q.toInt * ((2 ^ 1074 : Nat) : Int) := zy
  obtain ⟨pn, hpn⟩ : ∃ n : Nat, p.toInt = n := ⟨p.toInt.toNat, by omega⟩
  obtain ⟨qn, hqn⟩ : ∃ n : Nat, q.toInt = n := ⟨q.toInt.toNat, by omega⟩
  have k3 : FP.Core.zmag FP.Core.b64 (.fin false c q1) = pn * 2 ^ 1074 := by
    rw [hpn, ← Int.natCast_mul] at k1
    exact Int.ofNat.inj k1
  have k4 : FP.Core.zmag FP.Core.b64 (.fin false d r1) = qn * 2 ^ 1074 := by
    rw [hqn, ← Int.natCast_mul] at k2
    exact Int.ofNat.inj k2
  have hq3 : qn < 2 ^ 31 := by omega
  have hpq : pn ≤ qn := by omega
  have hp1 : 1 ≤ pn := by omega
  have hsg : FP.Core.sgn (FP.Core.val64 (FP.Core.ddiv (FP.Core.i2d p) (FP.Core.i2d q))) = false := by rw [hv, FP.Core.sgn_roundRatio]
  have hnn : FP.Core.val64 (FP.Core.ddiv (FP.Core.i2d p) (FP.Core.i2d q)) ≠ .nan := by rw [hv]; exact FP.Core.roundRatio_ne_nan _ _ _ _ _
  rw [FP.Core.sgn_bits hnn] at hsg
  have hlt := of_decide_eq_false hsg
  have hm : FP.Core.mag FP.Core.b64 (FP.Core.ddiv (FP.Core.i2d p) (FP.Core.i2d q)).toNat = (FP.Core.ddiv (FP.Core.i2d p) (FP.Core.i2d q)).toNat := by
    rw [FP.Core.mag_toNat64]; omega
  have u1 : FP.Core.unitsOf FP.Core.b64 (1023 * 2 ^ 52) = 2 ^ 52 * 2 ^ 1022 := FP.Core.unitsOf_start (f := FP.Core.b64) (K := 1023) (by decide)
  have u2 : FP.Core.unitsOf FP.Core.b64 (1 * 2 ^ 52) = 2 ^ 52 * 2 ^ 0 := FP.Core.unitsOf_start (f := FP.Core.b64) (K := 1) (by decide)
  have c1 := FP.Core.mag_ge FP.Core.good_b64 (m := 1 * 2 ^ 52) (e0 := 2 * FP.Core.b64.qmin - r1) hv (by omega : 0 < d) (by omega) (by omega) (by rw [FP.Core.infBits_b64]; omega) (by
    rw [e1, Nat.mul_assoc, e2, k3, k4, u2, hqm]
    show 2 ^ 52 * 2 ^ 0 * (qn * 2 ^ 1074) ≤ pn * 2 ^ 1074 * 2 ^ 1074
    have h5 : qn * 2 ^ 52 ≤ 2 ^ 1074 := Nat.le_trans (Nat.mul_le_mul_right _ (Nat.le_of_lt hq3)) (Nat.le_of_ble_eq_true rfl)
    calc 2 ^ 52 * 2 ^ 0 * (qn * 2 ^ 1074) = (qn * 2 ^ 52) * 2 ^ 1074 := by rw [Nat.pow_zero]; ac_rfl
      _ ≤ 2 ^ 1074 * 2 ^ 1074 := Nat.mul_le_mul_right _ h5
      _ ≤ pn * (2 ^ 1074 * 2 ^ 1074) := Nat.le_mul_of_pos_left _ hp1
      _ = _ := by ac_rfl)
  have c2 := FP.Core.mag_le FP.Core.good_b64 (m := 1023 * 2 ^ 52) (e0 := 2 * FP.Core.b64.qmin - r1) hv (by omega : 0 < d) (by omega) (by omega) (by
    rw [e1, Nat.mul_assoc, e2, k3, k4, u1, hqm]
    show pn * 2 ^ 1074 * 2 ^ 1074 ≤ 2 ^ 52 * 2 ^ 1022 * (qn * 2 ^ 1074)
    have h5 : 2 ^ 52 * 2 ^ 1022 = 2 ^ 1074 := by rw [← Nat.pow_add]
    rw [h5, Nat.mul_comm (2 ^ 1074) (qn * 2 ^ 1074)]
    exact Nat.mul_le_mul_right _ (Nat.mul_le_mul_right _ hpq))
  rw [hm] at c1 c2
  exact ⟨by omega, c2⟩
theorem d_qz {q : Int32} (hq : 0 < q.toInt) : FP.ddiv (FP.i2d 0) (FP.i2d q) = 0 := by
  obtain ⟨t, d, r1, hy⟩ := FP.Core.i2d_fin q
  have wy := FP.Core.i2d_int q
  unfold FP.Core.DInt at wy
  rw [hy] at wy
  have et : t = false := by rw [FP.Core.whole_sign wy (by omega)]; exact decide_eq_false (by omega)
  subst et
  have hd0 : d ≠ 0 := fun h => by have := (FP.Core.whole_zero wy).mp h; omega
  have hx : FP.Core.val64 (FP.Core.i2d 0) = .fin false 0 FP.Core.b64.qmin := by decide +kernel
  have hv : FP.Core.val64 (FP.Core.ddiv (FP.Core.i2d 0) (FP.Core.i2d q)) = .fin false 0 FP.Core.b64.qmin := by
    rw [FP.Core.val64_ddiv, hx, hy]
    simp only [FP.Core.quotient, if_neg hd0]
    rfl
  exact FP.Core.val64_inj (by rw [hv]; exact FP.Core.Datum.noConfusion) (hv.trans FP.Core.val64_zero.symm)
/-- a share's double: 0, or from the least normal one to 1 -/
def d_sh (a : UInt64) : Prop := a = 0 ∨ (2 ^ 52 ≤ a.toNat ∧ a.toNat ≤ 1023 * 2 ^ 52)
theorem d_share {p q : Int32} (hp : 0 ≤ p.toInt) (hq : p.toInt ≤ q.toInt) (hq0 : 0 < q.toInt) : d_sh (FP.ddiv (FP.i2d p) (FP.i2d q)) := by
  by_cases h : p.toInt = 0
  · have e : p = 0 := Int32.toInt.inj (by rw [h]; rfl)
    subst e
    exact Or.inl (d_qz hq0)
  · exact Or.inr (d_quo (by omega) hq)
theorem d_sh_lt {a : UInt64} (h : d_sh a) : a.toNat < 2047 * 2 ^ 52 := by
  rcases h with rfl | h
  · decide
  · omega
theorem d_sh_nn {a : UInt64} (h : d_sh a) : a &&& 0x7fffffffffffffff ≤ 0x7ff0000000000000 := d_nn (by have := d_sh_lt h; omega)
theorem d_sh_cmp {a : UInt64} (h : d_sh a) (op : CmpOp) : Op.cmpValue (FP.dcmp a a) op = 0 := by
  rw [d_cmp (d_sh_lt h) (d_sh_lt h), (FP.Core.compare_eq_iff _ _).mpr rfl]
  cases op <;> rfl
