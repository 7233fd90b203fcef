/-! ONE STEP of the pure machine, and its run. -/
abbrev m_S : Type := Nat × List (Option Value) × List Value × m_Mem
abbrev m_Nx : Type := m_S ⊕ ((Nat × List Value × Nat × List Value) ⊕ ((Option Value) ⊕ String))
def m_go (b : Bool) (pc : Nat) (pl : List (Option Value)) (st : List Value) (M : m_Mem) : Option m_Nx := match b with
  | true => some (.inl (pc, pl, st, M))
  | false => none
def m_tg (pc : Nat) (off : Int) : Nat := ((pc : Int) + off).toNat
def m_tk (pc : Nat) (off : Int) : Bool := decide (0 ≤ (pc : Int) + off)
def m_c1 (c : Jvm.ClassFile.Cond) (x : Int32) (t f : Nat) : Nat := match c with
  | .eq => if x = 0 then t else f
  | .ne => if x = 0 then f else t
  | .lt => if x < 0 then t else f
  | .ge => if 0 ≤ x then t else f
  | .gt => if 0 < x then t else f
  | .le => if x ≤ 0 then t else f
def m_c2 (c : Jvm.ClassFile.Cond) (x y : Int32) (t f : Nat) : Nat := match c with
  | .eq => if x = y then t else f
  | .ne => if x = y then f else t
  | .lt => if x < y then t else f
  | .ge => if y ≤ x then t else f
  | .gt => if y < x then t else f
  | .le => if x ≤ y then t else f
def m_sw (pc : Nat) (x : Int32) : Int → List Int → Nat → Nat
  | _, [], d => d
  | lo, o :: t, d => if x = Int32.ofInt lo then m_tg pc o else m_sw pc x (lo + 1) t d
def m_swk (pc : Nat) : Int → List Int → Bool
  | _, [] => true
  | lo, o :: t => m_tk pc o && ((Int32.ofInt lo).toInt == lo) && m_swk pc (lo + 1) t
def m_ls (pc : Nat) (x : Int32) : List (Int × Int) → Nat → Nat
  | [], d => d
  | (k, o) :: t, d => if x = Int32.ofInt k then m_tg pc o else m_ls pc x t d
def m_lsk (pc : Nat) : List (Int × Int) → Bool
  | [] => true
  | (k, o) :: t => m_tk pc o && ((Int32.ofInt k).toInt == k) && m_lsk pc t
def m_in (i : Int32) (n : Nat) : Bool := decide (0 ≤ i.toInt ∧ i.toInt < n)
/-- may the int v be kept as it is by a field of this sort: 0 int, 1 boolean, 2 char -/
def m_nok (f : Nat) (v : Int32) : Bool := match f with
  | 0 => true
  | 1 => v == m_nb v
  | 2 => v == m_nc v
  | _ => false
/-- how many cells an array of this kind has; the script's are told in the memory -/
def m_len (a : Nat) (M : m_Mem) : Nat := match a with
  | 26 => (M 27 0 0 0).toNatClampNeg
  | _ => m_al a
def m_cpy (M : m_Mem) (a b c b' c' : Nat) : m_Mem := fun a1 b1 c1 k => if a1 = a ∧ b1 = b ∧ c1 = c then va_cpy (M a b' c') (M a b c) 0 0 5 k else M a1 b1 c1 k
noncomputable def m_call (X Y pc : Nat) (virt : Bool) (st : List Value) : Option m_Nx :=
  match m_take (m_nth m_naL Y) st with
  | none => none
  | some (as, r) =>
    match Nat.blt (m_nth m_depL Y) (m_nth m_depL X) && Nat.ble (m_sz as.reverse) (m_nth m_mlL Y) && Nat.ble (m_sz r) 8 with
    | false => none
    | true => match virt with
      | false => some (.inr (.inl (Y, as.reverse, pc + 3, r)))
      | true => match m_pR as.reverse with
        | none => none
        | some (x, _) => match Nat.beq (m_ka x) (m_kd (m_nth m_ownL Y)) && m_dom (m_ka x) (m_kb x) (m_kc x) with
          | true => some (.inr (.inl (Y, as.reverse, pc + 3, r)))
          | false => none
noncomputable def m_nxt (X : Nat) (i : Instr) (len pc : Nat) (pl : List (Option Value)) (st : List Value) (M : m_Mem) : Option m_Nx := match i with
  | .iconst n => m_go (Nat.beq len 1) (pc + 1) pl (.int (Int32.ofInt n) :: st) M
  | .bipush n => m_go (Nat.beq len 2) (pc + 2) pl (.int (Int8.ofInt n).toInt32 :: st) M
  | .sipush n => m_go (Nat.beq len 3) (pc + 3) pl (.int (Int16.ofInt n).toInt32 :: st) M
  | .lconst f => m_go (Nat.beq len 1) (pc + 1) pl (.long (Int64.ofNat f.val) :: st) M
  | .dconst f => match f with
    | 0 => m_go (Nat.beq len 1) (pc + 1) pl (.double FP.dconst0 :: st) M
    | 1 => m_go (Nat.beq len 1) (pc + 1) pl (.double FP.dconst1 :: st) M
  | .ldc k => (m_look (m_KI (m_nth m_ownL X)) k).bind fun v => m_go (Nat.beq len 2) (pc + 2) pl (.int v :: st) M
  | .ldc_w k => (m_look (m_KI (m_nth m_ownL X)) k).bind fun v => m_go (Nat.beq len 3) (pc + 3) pl (.int v :: st) M
  | .ldc2_w k => match m_look (m_KL (m_nth m_ownL X)) k with
    | some v => m_go (Nat.beq len 3) (pc + 3) pl (.long v :: st) M
    | none => (m_look (m_KD (m_nth m_ownL X)) k).bind fun v => m_go (Nat.beq len 3) (pc + 3) pl (.double v :: st) M
  | .iload_n k => (m_vI (m_lg pl k.val)).bind fun x => m_go (Nat.beq len 1) (pc + 1) pl (.int x :: st) M
  | .iload k => (m_vI (m_lg pl k)).bind fun x => m_go (Nat.beq len 2) (pc + 2) pl (.int x :: st) M
  | .lload_n k => (m_vL (m_lg pl k.val)).bind fun x => m_go (Nat.beq len 1) (pc + 1) pl (.long x :: st) M
  | .lload k => (m_vL (m_lg pl k)).bind fun x => m_go (Nat.beq len 2) (pc + 2) pl (.long x :: st) M
  | .dload_n k => (m_vD (m_lg pl k.val)).bind fun x => m_go (Nat.beq len 1) (pc + 1) pl (.double x :: st) M
  | .dload k => (m_vD (m_lg pl k)).bind fun x => m_go (Nat.beq len 2) (pc + 2) pl (.double x :: st) M
  | .aload_n k => (m_vR (m_lg pl k.val)).bind fun x => m_go (Nat.beq len 1) (pc + 1) pl (.ref x :: st) M
  | .aload k => (m_vR (m_lg pl k)).bind fun x => m_go (Nat.beq len 2) (pc + 2) pl (.ref x :: st) M
  | .istore_n k => (m_pI st).bind fun q => m_go (Nat.beq len 1 && Nat.blt k.val pl.length) (pc + 1) (m_st1 pl k.val (.int q.1)) q.2 M
  | .istore k => (m_pI st).bind fun q => m_go (Nat.beq len 2 && Nat.blt k pl.length) (pc + 2) (m_st1 pl k (.int q.1)) q.2 M
  | .astore_n k => (m_pR st).bind fun q => m_go (Nat.beq len 1 && Nat.blt k.val pl.length) (pc + 1) (m_st1 pl k.val (.ref q.1)) q.2 M
  | .astore k => (m_pR st).bind fun q => m_go (Nat.beq len 2 && Nat.blt k pl.length) (pc + 2) (m_st1 pl k (.ref q.1)) q.2 M
  | .lstore_n k => (m_pL st).bind fun q => m_go (Nat.beq len 1 && Nat.blt (k.val + 1) pl.length) (pc + 1) (m_st2 pl k.val (.long q.1)) q.2 M
  | .lstore k => (m_pL st).bind fun q => m_go (Nat.beq len 2 && Nat.blt (k + 1) pl.length) (pc + 2) (m_st2 pl k (.long q.1)) q.2 M
  | .dstore_n k => (m_pD st).bind fun q => m_go (Nat.beq len 1 && Nat.blt (k.val + 1) pl.length) (pc + 1) (m_st2 pl k.val (.double q.1)) q.2 M
  | .dstore k => (m_pD st).bind fun q => m_go (Nat.beq len 2 && Nat.blt (k + 1) pl.length) (pc + 2) (m_st2 pl k (.double q.1)) q.2 M
  | .iinc k n => (m_vI (m_lg pl k)).bind fun x => m_go (Nat.beq len 3 && Nat.blt k pl.length) (pc + 3) (m_st1 pl k (.int (x + Int32.ofInt n))) st M
  | .iadd => (m_pI st).bind fun q => (m_pI q.2).bind fun r => m_go (Nat.beq len 1) (pc + 1) pl (.int (r.1 + q.1) :: r.2) M
  | .isub => (m_pI st).bind fun q => (m_pI q.2).bind fun r => m_go (Nat.beq len 1) (pc + 1) pl (.int (r.1 - q.1) :: r.2) M
  | .imul => (m_pI st).bind fun q => (m_pI q.2).bind fun r => m_go (Nat.beq len 1) (pc + 1) pl (.int (r.1 * q.1) :: r.2) M
  | .iand => (m_pI st).bind fun q => (m_pI q.2).bind fun r => m_go (Nat.beq len 1) (pc + 1) pl (.int (r.1 &&& q.1) :: r.2) M
  | .ixor => (m_pI st).bind fun q => (m_pI q.2).bind fun r => m_go (Nat.beq len 1) (pc + 1) pl (.int (r.1 ^^^ q.1) :: r.2) M
  | .ishr => (m_pI st).bind fun q => (m_pI q.2).bind fun r => m_go (Nat.beq len 1) (pc + 1) pl (.int (r.1 >>> (q.1 &&& 31)) :: r.2) M
  | .idiv => (m_pI st).bind fun q => (m_pI q.2).bind fun r => m_go (Nat.beq len 1 && !(q.1 == 0)) (pc + 1) pl (.int (r.1 / q.1) :: r.2) M
  | .irem => (m_pI st).bind fun q => (m_pI q.2).bind fun r => m_go (Nat.beq len 1 && !(q.1 == 0)) (pc + 1) pl (.int (r.1 - r.1 / q.1 * q.1) :: r.2) M
  | .ineg => (m_pI st).bind fun q => m_go (Nat.beq len 1) (pc + 1) pl (.int (-q.1) :: q.2) M
  | .ladd => (m_pL st).bind fun q => (m_pL q.2).bind fun r => m_go (Nat.beq len 1) (pc + 1) pl (.long (r.1 + q.1) :: r.2) M
  | .lsub => (m_pL st).bind fun q => (m_pL q.2).bind fun r => m_go (Nat.beq len 1) (pc + 1) pl (.long (r.1 - q.1) :: r.2) M
  | .lmul => (m_pL st).bind fun q => (m_pL q.2).bind fun r => m_go (Nat.beq len 1) (pc + 1) pl (.long (r.1 * q.1) :: r.2) M
  | .lshl => (m_pI st).bind fun q => (m_pL q.2).bind fun r => m_go (Nat.beq len 1) (pc + 1) pl (.long (r.1 <<< (q.1.toInt64 &&& 63)) :: r.2) M
  | .lcmp => (m_pL st).bind fun q => (m_pL q.2).bind fun r => m_go (Nat.beq len 1) (pc + 1) pl (.int (lg_cmp r.1 q.1) :: r.2) M
  | .dcmp o => (m_pD st).bind fun q => (m_pD q.2).bind fun r => m_go (Nat.beq len 1) (pc + 1) pl (.int (Op.cmpValue (FP.dcmp r.1 q.1) o) :: r.2) M
  | .ddiv => (m_pD st).bind fun q => (m_pD q.2).bind fun r => m_go (Nat.beq len 1 && decide (FP.ddiv r.1 q.1 &&& 0x7fffffffffffffff ≤ 0x7ff0000000000000)) (pc + 1) pl (.double (FP.ddiv r.1 q.1) :: r.2) M
  | .dmul => (m_pD st).bind fun q => (m_pD q.2).bind fun r => m_go (Nat.beq len 1 && decide (FP.dmul r.1 q.1 &&& 0x7fffffffffffffff ≤ 0x7ff0000000000000)) (pc + 1) pl (.double (FP.dmul r.1 q.1) :: r.2) M
  | .i2l => (m_pI st).bind fun q => m_go (Nat.beq len 1) (pc + 1) pl (.long q.1.toInt64 :: q.2) M
  | .i2c => (m_pI st).bind fun q => m_go (Nat.beq len 1) (pc + 1) pl (.int (q.1.toUInt32 % 65536).toInt32 :: q.2) M
  | .i2d => (m_pI st).bind fun q => m_go (Nat.beq len 1) (pc + 1) pl (.double (FP.i2d q.1) :: q.2) M
  | .l2d => (m_pL st).bind fun q => m_go (Nat.beq len 1) (pc + 1) pl (.double (FP.l2d q.1) :: q.2) M
  | .d2l => (m_pD st).bind fun q => m_go (Nat.beq len 1) (pc + 1) pl (.long (FP.d2l q.1) :: q.2) M
  | .dup => (m_p1 st).bind fun q => m_go (Nat.beq len 1) (pc + 1) pl (q.1 :: q.1 :: q.2) M
  | .dup2 => (m_p1 st).bind fun q => (m_p1 q.2).bind fun r => m_go (Nat.beq len 1) (pc + 1) pl (q.1 :: r.1 :: q.1 :: r.1 :: r.2) M
  | .pop => (m_p1 st).bind fun q => m_go (Nat.beq len 1) (pc + 1) pl q.2 M
  | .ifCond c o => (m_pI st).bind fun q => m_go (Nat.beq len 3 && m_tk pc o) (m_c1 c q.1 (m_tg pc o) (pc + 3)) pl q.2 M
  | .if_icmp c o => (m_pI st).bind fun q => (m_pI q.2).bind fun r => m_go (Nat.beq len 3 && m_tk pc o) (m_c2 c r.1 q.1 (m_tg pc o) (pc + 3)) pl r.2 M
  | .goto o => m_go (Nat.beq len 3 && m_tk pc o) (m_tg pc o) pl st M
  | .tableswitch d lo hi os => (m_pI st).bind fun q => m_go (m_tk pc d && m_swk pc lo os.toList && (hi + 1 == lo + (os.toList.length : Int))) (m_sw pc q.1 lo os.toList (m_tg pc d)) pl q.2 M
  | .lookupswitch d ps => (m_pI st).bind fun q => m_go (m_tk pc d && m_lsk pc ps.toList && (ps.toList.zip (ps.toList.drop 1)).all (fun (a, next) => a.1 < next.1)) (m_ls pc q.1 ps.toList (m_tg pc d)) pl q.2 M
  | .getfield k => (m_look (m_FT (m_nth m_ownL X)) k).bind fun f => (m_pR st).bind fun q => m_go (Nat.beq len 3 && (Nat.beq (m_ka q.1) f.1 && m_dom f.1 (m_kb q.1) (m_kc q.1))) (pc + 3) pl (m_fv f.1 (m_kb q.1) (m_kc q.1) f.2 (M f.1 (m_kb q.1) (m_kc q.1) f.2) :: q.2) M
  | .putfield k => (m_look (m_FT (m_nth m_ownL X)) k).bind fun f => (m_pI st).bind fun v => (m_pR v.2).bind fun q => m_go (Nat.beq len 3 && (Nat.beq (m_ka q.1) f.1 && m_dom f.1 (m_kb q.1) (m_kc q.1)) && m_nok (m_fn f.1 f.2) v.1) (pc + 3) pl q.2 (m_set M f.1 (m_kb q.1) (m_kc q.1) f.2 v.1)
  | .getstatic k => (m_look (m_ST (m_nth m_ownL X)) k).bind fun a => m_go (Nat.beq len 3) (pc + 3) pl (.ref (m_lc a 0 0) :: st) M
  | .iaload => (m_pI st).bind fun j => (m_pR j.2).bind fun q => m_go (Nat.beq len 1 && (Nat.beq (m_at (m_ka q.1)) 1 && (m_dom (m_ka q.1) (m_kb q.1) (m_kc q.1) && m_in j.1 (m_len (m_ka q.1) M)))) (pc + 1) pl (.int (M (m_ka q.1) (m_kb q.1) (m_kc q.1) j.1.toNatClampNeg) :: q.2) M
  | .baload => (m_pI st).bind fun j => (m_pR j.2).bind fun q => m_go (Nat.beq len 1 && (Nat.beq (m_at (m_ka q.1)) 2 && (m_dom (m_ka q.1) (m_kb q.1) (m_kc q.1) && m_in j.1 (m_al (m_ka q.1))))) (pc + 1) pl (.int (M (m_ka q.1) (m_kb q.1) (m_kc q.1) j.1.toNatClampNeg) :: q.2) M
  | .caload => (m_pI st).bind fun j => (m_pR j.2).bind fun q => m_go (Nat.beq len 1 && (Nat.beq (m_at (m_ka q.1)) 3 && (m_dom (m_ka q.1) (m_kb q.1) (m_kc q.1) && m_in j.1 (m_al (m_ka q.1))))) (pc + 1) pl (.int (M (m_ka q.1) (m_kb q.1) (m_kc q.1) j.1.toNatClampNeg) :: q.2) M
  | .aaload => (m_pI st).bind fun j => (m_pR j.2).bind fun q => m_go (Nat.beq len 1 && (Nat.beq (m_at (m_ka q.1)) 5 && (m_dom (m_ka q.1) (m_kb q.1) (m_kc q.1) && m_in j.1 (m_al (m_ka q.1))))) (pc + 1) pl (.ref (m_ra (m_ka q.1) (m_kb q.1) (m_kc q.1) j.1.toNatClampNeg (M (m_ka q.1) (m_kb q.1) (m_kc q.1) j.1.toNatClampNeg)) :: q.2) M
  | .iastore => (m_pI st).bind fun v => (m_pI v.2).bind fun j => (m_pR j.2).bind fun q => m_go (Nat.beq len 1 && (Nat.beq (m_at (m_ka q.1)) 1 && (m_wr (m_ka q.1) && (m_dom (m_ka q.1) (m_kb q.1) (m_kc q.1) && m_in j.1 (m_al (m_ka q.1)))))) (pc + 1) pl q.2 (m_set M (m_ka q.1) (m_kb q.1) (m_kc q.1) j.1.toNatClampNeg v.1)
  | .bastore => (m_pI st).bind fun v => (m_pI v.2).bind fun j => (m_pR j.2).bind fun q => m_go (Nat.beq len 1 && (Nat.beq (m_at (m_ka q.1)) 2 && (m_wr (m_ka q.1) && (m_dom (m_ka q.1) (m_kb q.1) (m_kc q.1) && m_in j.1 (m_al (m_ka q.1)))))) (pc + 1) pl q.2 (m_set M (m_ka q.1) (m_kb q.1) (m_kc q.1) j.1.toNatClampNeg (m_nb v.1))
  | .castore => (m_pI st).bind fun v => (m_pI v.2).bind fun j => (m_pR j.2).bind fun q => m_go (Nat.beq len 1 && (Nat.beq (m_at (m_ka q.1)) 3 && (m_wr (m_ka q.1) && (m_dom (m_ka q.1) (m_kb q.1) (m_kc q.1) && m_in j.1 (m_al (m_ka q.1)))))) (pc + 1) pl q.2 (m_set M (m_ka q.1) (m_kb q.1) (m_kc q.1) j.1.toNatClampNeg (m_nc v.1))
  | .aastore => (m_pR st).bind fun v => (m_pI v.2).bind fun j => (m_pR j.2).bind fun q => m_go (Nat.beq len 1 && (Nat.beq (m_ka q.1) 4 && (m_dom (m_ka q.1) (m_kb q.1) (m_kc q.1) && m_in j.1 (m_al (m_ka q.1)))) && (Nat.beq (m_ka v.1) 7 && (Nat.beq (m_kc v.1) 0 && (Nat.ble 3 (m_kb v.1) && Nat.blt (m_kb v.1) 9)))) (pc + 1) pl q.2 (m_set M (m_ka q.1) (m_kb q.1) (m_kc q.1) j.1.toNatClampNeg (nI (m_kb v.1 - 3)))
  | .arraylength => (m_pR st).bind fun q => m_go (Nat.beq len 1 && (Nat.beq (m_ka q.1) 26 && m_dom (m_ka q.1) (m_kb q.1) (m_kc q.1))) (pc + 1) pl (.int (M 27 0 0 0) :: q.2) M
  | .invokevirtual k => match Nat.beq len 3 with
    | false => none
    | true => (m_look (m_CT (m_nth m_ownL X)) k).bind fun f => match f.2 with
      | 0 => m_call X f.1 pc true st
      | _ => none
  | .invokestatic k => match Nat.beq len 3 with
    | false => none
    | true => match m_look (m_CT (m_nth m_ownL X)) k with
      | some (Y, 1) => m_call X Y pc false st
      | some (Y, 2) => m_call X Y pc false st
      | some (_, _) => none
      | none => (m_look (m_NA (m_nth m_ownL X)) k).bind fun f => match f with
        | 1 => (m_pI st).bind fun n => (m_pI n.2).bind fun dp => (m_pR dp.2).bind fun y => (m_pI y.2).bind fun sp => (m_pR sp.2).bind fun x =>
          m_go (Nat.ble 1 (m_nth m_depL X) && Nat.ble (m_sz x.2) 8 && (n.1 == 5 && (dp.1 == 0 && sp.1 == 0)) && (Nat.beq (m_ka x.1) 11 && (Nat.beq (m_ka y.1) 11 && (m_dom 11 (m_kb x.1) (m_kc x.1) && m_dom 11 (m_kb y.1) (m_kc y.1))))) (pc + 3) pl x.2
            (m_cpy M 11 (m_kb y.1) (m_kc y.1) (m_kb x.1) (m_kc x.1))
        | 3 => (m_pD st).bind fun d => m_go (Nat.ble 1 (m_nth m_depL X) && Nat.ble (m_sz d.2) 8) (pc + 3) pl (.long d.1.toInt64 :: d.2) M
        | _ => none
  | .new _ => match st with
    | [] => (m_look m_TS (X * 65536 + pc)).bind fun E => some (.inr (.inr (.inr E)))
    | _ => none
  | .ireturn => match st with
    | [.int x] => match Nat.beq len 1 && m_nok (m_nth m_rsL X) x with
      | true => some (.inr (.inr (.inl (some (.int x)))))
      | false => none
    | _ => none
  | .lreturn => match st with
    | [.long x] => match Nat.beq len 1 && Nat.beq (m_nth m_rsL X) 3 with
      | true => some (.inr (.inr (.inl (some (.long x)))))
      | false => none
    | _ => none
  | .dreturn => match st with
    | [.double x] => match Nat.beq len 1 && Nat.beq (m_nth m_rsL X) 4 with
      | true => some (.inr (.inr (.inl (some (.double x)))))
      | false => none
    | _ => none
  | .return_ => match st with
    | [] => match Nat.beq len 1 && Nat.beq (m_nth m_rsL X) 5 with
      | true => some (.inr (.inr (.inl none)))
      | false => none
    | _ => none
  | _ => none
def m_dec (X pc : Nat) : Option (Instr × Nat) := match decode (m_code X) pc with
  | .ok r => some r
  | _ => none
abbrev m_R : Type := (Option Value ⊕ String) × m_Mem
/-- exceptions caught so far: a place of the memory that no program has -/
def m_cnt (M : m_Mem) : Nat := (M 28 0 0 0).toNatClampNeg
def m_bump (M : m_Mem) : m_Mem := m_set M 28 0 0 0 (M 28 0 0 0 + 1)
/-- X catches an E that came out of a call: the handlers answer a number -/
def m_tx (X pc : Nat) (E : String) (M : m_Mem) : Option m_R := match m_hk (X * 65536 + pc) E with
  | none => none
  | some k => match decide (0 ≤ M 28 0 0 0 ∧ M 28 0 0 0 < 100000) with
    | true => some (.inl (some (.int k)), m_bump M)
    | false => none
noncomputable def m_run : Nat → Nat → Nat → List (Option Value) → List Value → m_Mem → Option m_R
  | 0, _, _, _, _, _ => none
  | n + 1, X, pc, pl, st, M => match m_dec X pc with
    | none => none
    | some (i, len) => match m_nxt X i len pc pl st M with
      | none => none
      | some (.inl (pc', pl', st', M')) => m_run n X pc' pl' st' M'
      | some (.inr (.inl (Y, as, pc', st'))) => match m_run n Y 0 (m_ent as (m_nth m_mlL Y)) [] M with
        | none => none
        | some (.inl v, M') => m_run n X pc' pl (v.toList ++ st') M'
        | some (.inr E, M') => m_tx X pc' E M'
      | some (.inr (.inr (.inl v))) => some (.inl v, M)
      | some (.inr (.inr (.inr E))) => some (.inr E, M)
/-- a run of n steps is one of n + 1 -/
theorem m_run_1 : ∀ (n X pc : Nat) (pl : List (Option Value)) (st : List Value) (M : m_Mem) (r : m_R), m_run n X pc pl st M = some r → m_run (n + 1) X pc pl st M = some r := by
  intro n
  induction n with
  | zero => intro X pc pl st M r h; unfold m_run at h; cases h
  | succ n ih =>
    intro X pc pl st M r h
    unfold m_run at h
    unfold m_run
    cases h1 : m_dec X pc with
    | none => rw [h1] at h; cases h
    | some q =>
      obtain ⟨i, len⟩ := q
      rw [h1] at h
      dsimp only at h ⊢
      cases h2 : m_nxt X i len pc pl st M with
      | none => rw [h2] at h; cases h
      | some z =>
        rw [h2] at h
        match z, h with
        | .inl (pc', pl', st', M'), h => exact ih _ _ _ _ _ _ h
        | .inr (.inl (Y, as, pc', st')), h =>
          dsimp only at h ⊢
          cases h3 : m_run n Y 0 (m_ent as (m_nth m_mlL Y)) [] M with
          | none => rw [h3] at h; cases h
          | some w =>
            rw [ih _ _ _ _ _ _ h3]
            rw [h3] at h
            match w, h with
            | (.inl v, M'), h => exact ih _ _ _ _ _ _ h
            | (.inr E, M'), h => exact h
        | .inr (.inr (.inl v)), h => exact h
        | .inr (.inr (.inr E)), h => exact h
theorem m_run_le {n k X pc : Nat} {pl : List (Option Value)} {st : List Value} {M : m_Mem} {r : m_R} (h : m_run n X pc pl st M = some r) : m_run (n + k) X pc pl st M = some r := by
  induction k with
  | zero => exact h
  | succ k ih => exact m_run_1 _ _ _ _ _ _ _ ih
