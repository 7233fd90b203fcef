/-! THE CLAIM OUT OF ONE WALK OF THE LAW'S BODY. Your part is whole_start (and what it stands on); all else here is the same for every law, but numbers. -/
def R_law : String := "FineScripLaw"
def lw_P (b : Addr) (xs : List Int32) (args : Array Value) (s : State) : Prop := args = #[.ref b] ∧ s.IntsAt b xs ∧ xs.length ≤ 260 ∧ (Jvm.Cond.and given_1 narrow_1).before args s = true
def lw_Q (_ : Array Value) (s : State) (o : Outcome) (t : State) : Prop := o = .returned (some (.int 1)) ∧ Framed s o t [] 600172 7300668
def lw_Z (below : List Frame) (a : Array Value) (s : State) : State → Prop := fun t => ∃ o, t.status = .running ∧ Ended t below o ∧ lw_Q a s o t
/-- the law's own end, with 1 on the stack, nothing written that was there before, its room as the claim has it -/
theorem lw_ret {p : Program} {l : Launch} {e : Env} {s : State} {m : MethodId} {below : List Frame} {meth : Method} {c : Code} {b : Nat} (hx : p.tables.exec = Jvm.exec) (hb : c.code = code) (hr : meth.sig.returnType = ret) (hlocks : meth.locks = false) {pc : Nat} {H : Heap} {ls : Array Slot} (hdg : decode code pc = .ok (.ireturn, 1)) : W p l e room_1 s m #[Value.ref b] below meth c H [] 600172 7300668 (lw_Z below #[Value.ref b] s) (F0 m pc ls [.int 1]) := by
  intro T hT X
  obtain ⟨fs, hret, hrun, hended, hW, hframe⟩ := X.leave (v := some (.int 1)) (hlocks := hlocks) (fun h => by rw [hr] at h; cases h)
  have hmeth' : T.vm.method? m = some meth := X.method'
  refine ⟨T.setFrames fs, ?_, .returned (some (.int 1)), hrun, hended, rfl, ⟨_, rfl⟩, hW, hframe⟩
  jvm_step X.here [X.here.top, hx, hb, hdg, hmeth', hr, ret, narrow_b1]
  (try refine ⟨rfl, ?_⟩); (try refine ⟨rfl, ?_⟩)
  first | (intro acts; rw [hret _ acts rfl rfl rfl]) | rw [hret _ _ rfl rfl rfl]
  exact Steps.refl _
/-- what holds at the law's entry: the machine, the code, the tables' words (any of lw_tbl by 'hts w (by decide +kernel)'), the script of L ints xs at the cell b, what the Statement gives of the start (any of its parts by flat_of_before) -/
def lw_At (p : Program) (s : State) (m : MethodId) (meth : Method) (c : Code) (b L : Nat) (xs : Nat → Int32) : Prop :=
  p.tables.exec = Jvm.exec ∧ c.code = code ∧ meth.sig.returnType = ret ∧ c.maxLocals = 9 ∧ s.vm.findClass R_law = some m.cls ∧ (∀ w ∈ lw_tbl, w.before #[Value.ref b] s = true) ∧ va_X b L xs s s.heap ∧ b < s.heap.size ∧ meth.locks = false ∧ (Jvm.Cond.and given_1 narrow_1).before #[Value.ref b] s = true
theorem j_htsg {p : Program} {s : State} {m : MethodId} {meth : Method} {c : Code} {b L : Nat} {xs : Nat → Int32} (C0 : lw_At p s m meth c b L xs) : ∀ w ∈ lw_g, w.before #[Value.ref b] s = true := fun w hw => C0.2.2.2.2.2.1 w (List.mem_filter.mp hw).1
theorem j_tabL {p : Program} {s : State} {m : MethodId} {meth : Method} {c : Code} {b L : Nat} {xs : Nat → Int32} (C0 : lw_At p s m meth c b L xs) : ∃ t : Nat, va_Z "FineScrip" "LEAST_VALUES" "[I" (.ref t) (fun q => s.heap.size ≤ q) s s.heap ∧ va_T .int t 5 (fun j => .int (m_s24 j)) (fun q => s.heap.size ≤ q) s s.heap := by
  obtain ⟨hx, hb, hr, hml, hown, hts, hX, hbl, hlocks, hgv⟩ := C0
  have hs := flat_of_before _ hgv
  have hA : ∀ a : Nat, a < s.heap.size → ¬ (s.heap.size ≤ a) := fun a h => by omega
  have harr : (Cond.arrayOf (.static "FineScrip" "LEAST_VALUES" "[I") .int).before #[Value.ref b] s = true := hs _ (by decide +kernel)
  have hlen : (Cond.eq (.length (.static "FineScrip" "LEAST_VALUES" "[I")) (.int 5)).before #[Value.ref b] s = true := hs _ (by decide +kernel)
  have hl : (Cond.laysStatic "FineScrip" "LEAST_VALUES" "[I").before #[Value.ref b] s = true := hts _ (by decide +kernel)
  have hini : (Cond.initialized "FineScrip").before #[Value.ref b] s = true := hts _ (by decide +kernel)
  have e0 : (Cond.eq (.elem (.static "FineScrip" "LEAST_VALUES" "[I") (.int 0)) (.int 500)).before #[Value.ref b] s = true := hs _ (by decide +kernel)
  have e1 : (Cond.eq (.elem (.static "FineScrip" "LEAST_VALUES" "[I") (.int 1)) (.int 1)).before #[Value.ref b] s = true := hs _ (by decide +kernel)
  have e2 : (Cond.eq (.elem (.static "FineScrip" "LEAST_VALUES" "[I") (.int 2)) (.int 0)).before #[Value.ref b] s = true := hs _ (by decide +kernel)
  have e3 : (Cond.eq (.elem (.static "FineScrip" "LEAST_VALUES" "[I") (.int 3)) (.int 1)).before #[Value.ref b] s = true := hs _ (by decide +kernel)
  have e4 : (Cond.eq (.elem (.static "FineScrip" "LEAST_VALUES" "[I") (.int 4)) (.int 1)).before #[Value.ref b] s = true := hs _ (by decide +kernel)
  obtain ⟨t, h1, h2⟩ := va_Tof (N := 5) (f := fun j => .int (m_s24 j)) (by decide) harr (va_eqt hlen) (fun j hj => by
    match j, hj with
    | 0, _ => exact va_eqt e0
    | 1, _ => exact va_eqt e1
    | 2, _ => exact va_eqt e2
    | 3, _ => exact va_eqt e3
    | 4, _ => exact va_eqt e4
    | j + 5, h => exact absurd h (by omega)) hA
  exact ⟨t, va_Zref hl hini h1 hA, h2⟩
theorem j_tabM {p : Program} {s : State} {m : MethodId} {meth : Method} {c : Code} {b L : Nat} {xs : Nat → Int32} (C0 : lw_At p s m meth c b L xs) : ∃ t : Nat, va_Z "FineScrip" "MOST_VALUES" "[I" (.ref t) (fun q => s.heap.size ≤ q) s s.heap ∧ va_T .int t 5 (fun j => .int (m_s25 j)) (fun q => s.heap.size ≤ q) s s.heap := by
  obtain ⟨hx, hb, hr, hml, hown, hts, hX, hbl, hlocks, hgv⟩ := C0
  have hs := flat_of_before _ hgv
  have hA : ∀ a : Nat, a < s.heap.size → ¬ (s.heap.size ≤ a) := fun a h => by omega
  have harr : (Cond.arrayOf (.static "FineScrip" "MOST_VALUES" "[I") .int).before #[Value.ref b] s = true := hs _ (by decide +kernel)
  have hlen : (Cond.eq (.length (.static "FineScrip" "MOST_VALUES" "[I")) (.int 5)).before #[Value.ref b] s = true := hs _ (by decide +kernel)
  have hl : (Cond.laysStatic "FineScrip" "MOST_VALUES" "[I").before #[Value.ref b] s = true := hts _ (by decide +kernel)
  have hini : (Cond.initialized "FineScrip").before #[Value.ref b] s = true := hts _ (by decide +kernel)
  have e0 : (Cond.eq (.elem (.static "FineScrip" "MOST_VALUES" "[I") (.int 0)) (.int 1000)).before #[Value.ref b] s = true := hs _ (by decide +kernel)
  have e1 : (Cond.eq (.elem (.static "FineScrip" "MOST_VALUES" "[I") (.int 1)) (.int 999)).before #[Value.ref b] s = true := hs _ (by decide +kernel)
  have e2 : (Cond.eq (.elem (.static "FineScrip" "MOST_VALUES" "[I") (.int 2)) (.int 50)).before #[Value.ref b] s = true := hs _ (by decide +kernel)
  have e3 : (Cond.eq (.elem (.static "FineScrip" "MOST_VALUES" "[I") (.int 3)) (.int 30)).before #[Value.ref b] s = true := hs _ (by decide +kernel)
  have e4 : (Cond.eq (.elem (.static "FineScrip" "MOST_VALUES" "[I") (.int 4)) (.int 99)).before #[Value.ref b] s = true := hs _ (by decide +kernel)
  obtain ⟨t, h1, h2⟩ := va_Tof (N := 5) (f := fun j => .int (m_s25 j)) (by decide) harr (va_eqt hlen) (fun j hj => by
    match j, hj with
    | 0, _ => exact va_eqt e0
    | 1, _ => exact va_eqt e1
    | 2, _ => exact va_eqt e2
    | 3, _ => exact va_eqt e3
    | 4, _ => exact va_eqt e4
    | j + 5, h => exact absurd h (by omega)) hA
  exact ⟨t, va_Zref hl hini h1 hA, h2⟩
theorem j_cls {p : Program} {s : State} {m : MethodId} {meth : Method} {c : Code} {b L : Nat} {xs : Nat → Int32} (C0 : lw_At p s m meth c b L xs) : ∃ D : va_G, va_K D vwCl [] s := by
  have hts := j_htsg C0
  obtain ⟨c0, i0, h0⟩ := u_known (C := RX0) (T := TX0) (N := 10) hts (m_lay 0 (by decide)) (hts _ js_0)
  obtain ⟨c1, i1, h1⟩ := u_known (C := RX1) (T := TX1) (N := 6) hts (m_lay 1 (by decide)) (hts _ js_1)
  obtain ⟨c2, i2, h2⟩ := u_known (C := RX2) (T := TX2) (N := 6) hts (m_lay 2 (by decide)) (hts _ js_2)
  obtain ⟨c3, i3, h3⟩ := u_known (C := RX3) (T := TX3) (N := 8) hts (m_lay 3 (by decide)) (hts _ js_3)
  obtain ⟨c4, i4, h4⟩ := u_known (C := RX4) (T := TX4) (N := 3) hts (m_lay 4 (by decide)) (hts _ js_4)
  obtain ⟨c5, i5, h5⟩ := u_known (C := RX5) (T := TX5) (N := 6) hts (m_lay 5 (by decide)) (hts _ js_5)
  refine ⟨(fun c => match c with
    | 0 => c0
    | 1 => c1
    | 2 => c2
    | 3 => c3
    | 4 => c4
    | _ => c5, fun c => match c with
    | 0 => i0
    | 1 => i1
    | 2 => i2
    | 3 => i3
    | 4 => i4
    | _ => i5), fun c q hq => ?_, fun k q hk => by cases hk⟩
  match c, hq with
  | 0, hq => cases hq; exact h0
  | 1, hq => cases hq; exact h1
  | 2, hq => cases hq; exact h2
  | 3, hq => cases hq; exact h3
  | 4, hq => cases hq; exact h4
  | 5, hq => cases hq; exact h5
  | c + 6, hq => cases hq
def j_caS (s : State) : Nat → ClassId := fun t => (s.vm.findClass ("[" ++ (m_rty t).toString)).getD 0
theorem j_caS_ok (s : State) : j_ca (j_caS s) s := by
  intro t
  unfold j_caS
  cases s.vm.findClass ("[" ++ (m_rty t).toString) <;> rfl
theorem j_envS {p : Program} {s : State} {m : MethodId} {meth : Method} {c : Code} {b L : Nat} {xs : Nat → Int32} (C0 : lw_At p s m meth c b L xs) {D : va_G} (hK : va_K D vwCl [] s) : j_env D (j_caS s) s :=
  ⟨hK, j_caS_ok s, fun w hw => va_Nw.of (j_nests_ot w hw) (C0.2.2.2.2.2.1 w (j_nests_tbl w hw)), fun C hC => va_AO.of (C0.2.2.2.2.2.1 _ (j_ao_tbl C hC))⟩
theorem j_nests2_tbl : ∀ w ∈ m_nests, w ∈ lw_tbl := by decide +kernel
theorem j_strs_tbl : ∀ e ∈ m_strs, Cond.stringRef e.1 e.2.1 e.2.2 ∈ lw_tbl := by decide +kernel
theorem j_vkR {s : State} {args : Array Value} {own tx : String} {k : Nat} (h : (Cond.stringRef own k tx).before args s = true) : ∃ a, vk_R own k tx a s := by
  cases hc : s.vm.findClass own with
  | none => simp [Cond.before, Cond.holds, Cond.value, hc] at h
  | some cc =>
    obtain ⟨k1, cf, i, a, hk, hcf, hp, -, hr, he⟩ := Cond.stringRef_spec hc h
    exact ⟨a, vk_R.of h he⟩
theorem j_ncs {p : Program} {s : State} {m : MethodId} {meth : Method} {c : Code} {b L : Nat} {xs : Nat → Int32} (C0 : lw_At p s m meth c b L xs) : ∀ e ∈ m_ncs, va_Nc e.1 e.2 s := by
  have hs := flat_of_before _ C0.2.2.2.2.2.2.2.2.2
  intro e he
  simp only [m_ncs, List.mem_cons, List.not_mem_nil, or_false] at he
  rcases he with rfl | rfl | rfl | rfl | rfl | rfl <;> exact va_Nc.of (hs _ (by decide +kernel))
theorem j_thr {p : Program} {s : State} {m : MethodId} {meth : Method} {c : Code} {b L : Nat} {xs : Nat → Int32} (C0 : lw_At p s m meth c b L xs) : vx_Zq Bundle.tN "UNASSIGNED_STACK" Bundle.steD (fun q => s.heap.size ≤ q) s s.heap ∧ vx_Zq Bundle.tN "SUPPRESSED_SENTINEL" Bundle.listD (fun q => s.heap.size ≤ q) s s.heap := by
  obtain ⟨hx, hb, hr, hml, hown, hts, hX, hbl, hlocks, hgv⟩ := C0
  have hs := flat_of_before _ hgv
  have hA : ∀ a : Nat, a < s.heap.size → ¬ (s.heap.size ≤ a) := fun a h => by omega
  exact ⟨vx_Zqof (hts _ (by decide +kernel)) (hts _ (by decide +kernel)) (hs _ (by decide +kernel)) hA, vx_Zqof (hts _ (by decide +kernel)) (hts _ (by decide +kernel)) (hs _ (by decide +kernel)) hA⟩
/-- what a run asks of the start -/
theorem j_Kst {p : Program} {s : State} {m : MethodId} {meth : Method} {c : Code} {b L : Nat} {xs : Nat → Int32} (C0 : lw_At p s m meth c b L xs) {D : va_G} (hK : va_K D vwCl (j_tl (j_caS s) [6, 7, 8, 1, 3, 5, 2]) s) {b5 : Nat} {u : j_S5} {v : j_S6} {t24 t25 : Nat} (hL : va_Z "FineScrip" "LEAST_VALUES" "[I" (.ref t24) (fun q => s.heap.size ≤ q) s s.heap ∧ va_T .int t24 5 (fun j => .int (m_s24 j)) (fun q => s.heap.size ≤ q) s s.heap) (hM : va_Z "FineScrip" "MOST_VALUES" "[I" (.ref t25) (fun q => s.heap.size ≤ q) s s.heap ∧ va_T .int t25 5 (fun j => .int (m_s25 j)) (fun q => s.heap.size ≤ q) s s.heap) :
    m_Kst (j_ad b5 u v t24 t25 b, D, j_caS s, s.heap.size, xs, L) s :=
  ⟨hK.sub [3, 3, 6, 4, 3, 5, 0, 1, 2] rfl, ⟨C0.2.2.2.2.2.2.1, C0.2.2.2.2.2.2.2.1, Nat.not_le.mpr C0.2.2.2.2.2.2.2.1⟩, hL, hM, j_thr C0, fun w hw => va_Nw.of (m_nests_ot w hw) (C0.2.2.2.2.2.1 w (j_nests2_tbl w hw)), fun e he => j_vkR (C0.2.2.2.2.2.1 _ (j_strs_tbl e he)), j_ncs C0⟩
