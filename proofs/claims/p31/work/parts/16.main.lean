/-! EVERY RUN of the pure machine is one of the machine. -/
def m_rsT : Nat → Option FieldType
  | 0 => some .int
  | 1 => some .boolean
  | 2 => some .char
  | 3 => some .long
  | 4 => some .double
  | _ => none
theorem m_rts : m_Xs.all (fun X => decide (m_rt X = m_rsT (m_nth m_rsL X))) = true := by decide +kernel
theorem m_rt_ok {X : Nat} (hX : X ∈ m_Xs) : m_rt X = m_rsT (m_nth m_rsL X) := of_decide_eq_true (List.all_eq_true.mp m_rts X hX)
theorem m_nok_lt {f : Nat} {v : Int32} (h : m_nok f v = true) : f < 3 := by
  match f, h with
  | 0, _ => omega
  | 1, _ => omega
  | 2, _ => omega
  | f + 3, h => cases h
theorem m_rsT_lt {f : Nat} (h : f < 3) : m_rsT f = some (m_ftt f) := by
  match f, h with
  | 0, _ => rfl
  | 1, _ => rfl
  | 2, _ => rfl
  | f + 3, h => omega
theorem m_Kst_same {g : m_G} {s U : State} (h : m_Kst g s) (hh : U.heap = s.heap) (hv : U.vm = s.vm) : m_Kst g U :=
  m_Kst_call (locs := []) h va_S.rf hh (by rw [hv]; exact State.WarmedH.refl s)
def m_Pc (g : m_G) (M : m_Mem) (as : List Value) : Array Value → State → Prop := fun a U => a = (as.map (m_tv g)).toArray ∧ m_P g M U.heap ∧ m_Mst g M ∧ m_Kst g U
theorem m_blind {g : m_G} {M : m_Mem} {as : List Value} : FrameBlind (m_Pc g M as) := fun _ _ _ _ h => ⟨h.1, h.2.1, h.2.2.1, m_Kst_same h.2.2.2 rfl rfl⟩
def m_Qc (g : m_G) (M1 : m_Mem) (v : Option Value) : Array Value → State → Outcome → State → Prop := fun _ st oc t => oc = .returned (v.map (m_tv g)) ∧ m_P g M1 t.heap ∧ m_Mst g M1 ∧ va_F (m_A g) st t
def m_QX (g : m_G) : Array Value → State → Outcome → State → Prop := va_Qi (fun _ (_ : Unit) => False) (fun _ _ => True) (m_A g)
def m_XC (g : m_G) (E : String) (M1 : m_Mem) : String → State → State → Prop := vx_X (fun _ : Unit => True) (fun E' _ t => E' = E ∧ m_P g M1 t.heap ∧ m_Mst g M1) (m_A g)
abbrev m_rm (Y dc : Nat) : Room := { frames := m_nth m_depL Y, cells := dc, slots := 6 * dc, locals := 40 * m_nth m_depL Y }
abbrev m_wY (Y : Nat) : List Cond := m_cwr (m_row Y) :: lw_g
theorem m_cwr_0 {X : Nat} (h : m_hh X = []) : m_cwr (m_row X) = .code (m_nm X) (m_code X) (m_ml X) (m_rt X) := by
  have h : (m_row X).2.2.2.2.2.2.2.1 = [] := h
  unfold m_cwr
  rw [h]
  rfl
theorem m_cwr_1 {X : Nat} (h : m_hh X ≠ []) : m_cwr (m_row X) = .codeWith (m_nm X) (m_code X) (m_ml X) (m_rt X) (m_hh X) := by
  have e : (m_row X).2.2.2.2.2.2.2.1 = m_hh X := rfl
  unfold m_cwr
  rw [e]
  cases hh : m_hh X with
  | nil => exact absurd hh h
  | cons a t => rfl
theorem m_gd {w : Cond} (h : w ∈ lw_g) : goodWord w = true := (List.mem_filter.mp h).2
theorem m_gi {ws : List Cond} (h : ∀ w ∈ ws, w ∈ lw_g) : GoodIn lw_g ws := fun w hw => ⟨h w hw, good_of_word (m_gd (h w hw))⟩
theorem m_wY_in {Y : Nat} (hY : Y ∈ m_Xs) : ∀ w ∈ m_wY Y, w ∈ lw_g := fun w hw => (List.mem_cons.mp hw).elim (fun e => e ▸ m_cw_ok Y hY) (fun h => h)
/-- what the end of a run owes -/
def m_End (g : m_G) (X : Nat) (p : Program) (l : Launch) (e : Env) (R : Room) (s : State) (m : MethodId) (args : Array Value) (below : List Frame) (meth : Method) (c : Code) (cells slots : Nat) (Q : State → Prop) (o : Option Value ⊕ String) (M1 : m_Mem) : Prop := match o with
  | .inl v => ∀ (pc : Nat) (i : Instr) (pl : List (Option Value)), pl.length = m_nth m_mlL X → decode (m_code X) pc = .ok (i, 1) → m_reti X i v → m_Go g p l e R s m args below meth c cells slots Q pc pl v.toList M1
  | .inr E => ∀ (pc : Nat) (pl : List (Option Value)), pl.length = m_nth m_mlL X → m_look m_TS (X * 65536 + pc) = some E → pc < 65536 → m_Go g p l e R s m args below meth c cells slots Q pc pl [] M1
def m_IH (g : m_G) (l : Launch) (n : Nat) : Prop := ∀ (X pc : Nat) (pl : List (Option Value)) (st : List Value) (M : m_Mem) (o : Option Value ⊕ String) (M1 : m_Mem), m_run n X pc pl st M = some (o, M1) → X < 117 → pl.length = m_nth m_mlL X →
  ∀ (p : Program) (e : Env) (R : Room) (s : State) (m : MethodId) (args : Array Value) (below : List Frame) (meth : Method) (c : Code) (cells slots : Nat) (Q : State → Prop), m_C g X p l R s m args meth c → cells + m_dc M M1 ≤ R.cells ∧ slots + 6 * m_dc M M1 ≤ R.slots → m_End g X p l e R s m args below meth c (cells + m_dc M M1) (slots + 6 * m_dc M M1) Q o M1 →
  m_Go g p l e R s m args below meth c cells slots Q pc pl st M
section MAIN
variable {g : m_G} {X Y : Nat} {p : Program} {l : Launch} {e : Env} {R : Room} {s : State} {m : MethodId} {args : Array Value} {below : List Frame} {meth : Method} {c : Code} {H : Heap} {locs : List Loc} {cells slots : Nat} {Q : State → Prop} {M M1 M2 : m_Mem} {as : List Value}
/-- the end of a method's body that returns -/
theorem m_fin_ret (C : m_C g X p l R s m args meth c) (hX : X ∈ m_Xs) (hr : meth.sig.returnType = m_rt X) {v : Option Value} {pc : Nat} {i : Instr} {pl : List (Option Value)} (hd : decode (m_code X) pc = .ok (i, 1)) (hi : m_reti X i v) : m_Go g p l e R s m args below meth c cells slots (MQ below (m_Qc g M1 v) args s cells slots (m_A g)) pc pl v.toList M1 := by
  intro ls H locs hl hP hM hS
  obtain ⟨hx, hb, hml, hown, hts, hR, htab, hst9, hKst, hap, hlk⟩ := C
  have hq : ∀ w : Option Value, w = v.map (m_tv g) → ∀ t : State, t.heap = H → s.WarmedH t.vm → m_Qc g M1 v args s (.returned w) t := fun w hw t ht _ =>
    ⟨by rw [hw], by rw [ht]; exact hP, hM, by rw [ht]; exact hS.1, by rw [ht]; exact hS.2.1⟩
  have hr2 := hr.trans (m_rt_ok hX)
  rcases hi with ⟨rfl, x, rfl, hn⟩ | ⟨rfl, h3, x, rfl⟩ | ⟨rfl, h3, x, rfl⟩ | ⟨rfl, h3, rfl⟩
  · have ht := m_nok_lt hn
    exact W.zret hx hb (hr2.trans (m_rsT_lt ht)) (m_fits ht hn).1 (hq _ rfl) hS.2.2 hd hlk
  · rw [h3] at hr2
    exact W.lret hx hb hr2 (hq _ rfl) hS.2.2 hd hlk
  · rw [h3] at hr2
    exact W.dret hx hb hr2 (hq _ rfl) hS.2.2 hd hlk
  · rw [h3] at hr2
    exact W.vret hx hb hr2 (hq _ rfl) hS.2.2 hd hlk
theorem m_bodyC (hst : l.stackTraces = false) (hap : m_ap g) (hY : Y ∈ m_Xs) {rm : Room} {s₁ : State} (B : BodyLoose p l (m_nm Y) (headSpec (m_wY Y) rm) (m_code Y) (m_ml Y) (m_rt Y) e s m args below meth c s₁) (hml : c.maxLocals = m_ml Y) (htab : c.exceptionTable.toList = tableOf (m_hh Y)) (hrm : m_nth m_depL Y ≤ rm.frames ∧ 40 * m_nth m_depL Y ≤ rm.locals) (hv : m_Pc g M as args s) : m_C g Y p l (headSpec (m_wY Y) rm).room s m args meth c := by
  have hts := atoms_spec (ws := m_wY Y) B.pre
  have hn := findClass_of_methodNamed B.named
  rw [(m_row_ok hY).2.1] at hn
  exact ⟨B.exec, B.bytes, hml.trans (m_agree hY).2.2.1.symm, hn, fun w hw => hts w (List.mem_cons_of_mem _ hw), hrm, htab, hst, hv.2.2.2, hap, B.notSynchronized⟩
theorem m_bodyW (hY : Y ∈ m_Xs) (hsz : m_sz as ≤ m_nth m_mlL Y) (hv : m_Pc g M as args s) (hgo : m_Go g p l e R s m args below meth c 0 0 Q 0 (m_ent as (m_nth m_mlL Y)) [] M) : W p l e R s m args below meth c s.heap [] 0 0 Q (entryFrame m args (m_ml Y)) := by
  obtain ⟨hv1, hP, hM, hK⟩ := hv
  have e1 := (m_agree hY).2.2.1
  rw [e1] at hsz hgo
  have hl := lv_entry (as.map (m_tv g)) (n := m_ml Y) (by rw [m_sl_len]; exact hsz)
  rw [hv1, lg_entry_eq]
  rw [hv1] at hgo
  refine hgo _ s.heap [] ⟨?_, hl.2.1, fun j v hj => ?_⟩ hP hM va_S.rf
  · rw [hl.1, m_ent_len as _ hsz]
  · have h := m_ent_lg g as (m_ml Y) 0 j v hj
    rw [Nat.zero_add] at h
    exact hl.2.2 (j, m_tv g v) h
theorem m_met (hst : l.stackTraces = false) (hap : m_ap g) {n : Nat} (ih : m_IH g l n) {v : Option Value} (h : m_run n Y 0 (m_ent as (m_nth m_mlL Y)) [] M = some (.inl v, M1)) (hY : Y ∈ m_Xs) (hsz : m_sz as ≤ m_nth m_mlL Y) : Met l (m_nm Y) (m_wY Y) (m_rm Y (m_dc M M1)) (m_Pc g M as) (m_Qc g M1 v) (m_dc M M1) (6 * m_dc M M1) (m_A g) := by
  have key : ∀ (p : Program) (e : Env) (s : State) (m : MethodId) (args : Array Value) (below : List Frame) (meth : Method) (c : Code) (s₁ : State), BodyLoose p l (m_nm Y) (headSpec (m_wY Y) (m_rm Y (m_dc M M1))) (m_code Y) (m_ml Y) (m_rt Y) e s m args below meth c s₁ → c.maxLocals = m_ml Y → c.exceptionTable.toList = tableOf (m_hh Y) → m_Pc g M as args s →
      W p l e (headSpec (m_wY Y) (m_rm Y (m_dc M M1))).room s m args below meth c s.heap [] 0 0 (MQ below (m_Qc g M1 v) args s (m_dc M M1) (6 * m_dc M M1) (m_A g)) (entryFrame m args (m_ml Y)) := by
    intro p e s m args below meth c s₁ B hml htab hv
    have C := m_bodyC hst hap hY B hml htab ⟨Nat.le_refl _, Nat.le_refl _⟩ hv
    refine m_bodyW hY hsz hv (ih Y 0 _ [] M (.inl v) M1 h (m_Xs_lt Y hY) (m_ent_len _ _ hsz) p e _ s m args below meth c 0 0 _ C ⟨by rw [Nat.zero_add]; exact Nat.le_refl _, by rw [Nat.zero_add]; exact Nat.le_refl _⟩ ?_)
    rw [Nat.zero_add, Nat.zero_add]
    intro pc i pl _ hd hi
    exact m_fin_ret C hY B.returns hd hi
  by_cases hh : m_hh Y = []
  · refine Met.ofW (cc := m_code Y) (maxL := m_ml Y) (ret := m_rt Y) (ws' := lw_g) (m_row_ok hY).1 (by unfold m_wY; rw [m_cwr_0 hh]) ?_
    intro p e s m args below meth c s₁ B hml hv
    refine key p e s m args below meth c s₁ B hml ?_ hv
    have hw := atoms_spec (ws := m_wY Y) B.pre _ List.mem_cons_self
    rw [m_cwr_0 hh] at hw
    rw [hh, Array.isEmpty_iff.mp (B.noHandlers hw)]
    rfl
  · refine va_MetW (cc := m_code Y) (maxL := m_ml Y) (ret := m_rt Y) (hh := m_hh Y) (ws' := lw_g) (m_row_ok hY).1 (by unfold m_wY; rw [m_cwr_1 hh]) ?_
    intro p e s m args below meth c s₁ B hml hv
    refine key p e s m args below meth c s₁ B hml ?_ hv
    have hw := atoms_spec (ws := m_wY Y) B.pre _ List.mem_cons_self
    rw [m_cwr_1 hh] at hw
    exact vx_table (x := m_nm Y) B hw
theorem m_nests_ot : ∀ w ∈ m_nests, w.onTables = true := by decide +kernel
theorem m_P_grow {H1 : Heap} (h : m_P g M H) (hq : ∀ q : Nat, q < H.size → H1[q]? = H[q]?) : m_P g M H1 := h.kept (fun _ q hk => hq q.1 (vx_lt h hk))
/-- the end of a method's body that throws -/
theorem m_fin_thr (C : m_C g X p l R s m args meth c) {E : String} {pc : Nat} {pl : List (Option Value)} (hpl : pl.length = m_nth m_mlL X) (ht : m_look m_TS (X * 65536 + pc) = some E) (hpc : pc < 65536) (hnt : ∀ x ∈ c.exceptionTable.toList, False) (hR : cells + 1 ≤ R.cells ∧ slots + 6 ≤ R.slots) {Qc : Array Value → State → Outcome → State → Prop} : m_Go g p l e R s m args below meth c cells slots (vx_MQ below Qc (m_XC g E M1) args s (cells + 1) (slots + 6) (m_A g)) pc pl [] M1 := by
  intro ls H locs hl hP hM hS
  obtain ⟨hx, hb, hml, hown, hts, hRR, htab, hst9, hKst, hap, hlk⟩ := C
  obtain ⟨ik, is, ic, tx, ⟨hk, hini⟩, hstr, ⟨hg1, hg2, hg3⟩, hfit, ⟨d0, d3⟩, hd, hh, hdep, hX⟩ := m_TS_ok ht hpc
  obtain ⟨hKK, -, -, -, ⟨hU, hN⟩, hnest, hstrs, hncs⟩ := hKst
  obtain ⟨sa, hsa⟩ := hstrs _ hstr
  have hat := vx_hat (args := args) (s := s) (B := m_nests) (fun w hw => hts w (hg1 w hw)) hg2 (fun w hw => va_Nw.use (m_nests_ot w hw) (hnest w hw))
  have hxx : ∀ t : State, s.vm.Alike t.vm → H.size ≤ t.heap.size → (∀ q : Nat, q < H.size → t.heap[q]? = H[q]?) → m_XC g E M1 E s t := by
    intro t _ h1 h2
    refine ⟨(), trivial, ⟨rfl, ?_, hM⟩, Nat.le_trans hS.1 h1, fun q hq hA => ?_⟩
    · exact m_P_grow hP h2
    · rw [h2 q (Nat.lt_of_lt_of_le hq hS.1)]
      exact hS.2.1 q hq hA
  have hsize := (hl.1.trans hpl).trans hml.symm
  rcases hd with ⟨d4, d6, d9⟩ | ⟨d4, d7, d10⟩
  · exact vx_throwS hx hb hst9 hown hfit m_fit_n (hts _ hk) (hts _ hini) hsa hat hg3 hU hN hS hsize d0 d3 d4 d6 d9 (fun x h => (hnt x h).elim) (by show 2 + 3 < R.frames; omega) (by show 0 + (13 * (2 + 1) + 43) ≤ R.locals; omega) hR.1 hR.2 hlk hxx hS.2.2 (Nat.le_refl _) (Nat.le_refl _)
  · exact vx_throwSW hx hb hst9 hown hfit m_fit_n (hts _ hk) (hts _ hini) hsa hat hg3 hU hN hS hsize d0 d3 d4 d7 d10 (fun x h => (hnt x h).elim) (by show 2 + 3 < R.frames; omega) (by show 0 + (13 * (2 + 1) + 43) ≤ R.locals; omega) hR.1 hR.2 hlk hxx hS.2.2 (Nat.le_refl _) (Nat.le_refl _)
theorem m_metX (hst : l.stackTraces = false) (hap : m_ap g) {n : Nat} (ih : m_IH g l n) {E : String} (h : m_run n Y 0 (m_ent as (m_nth m_mlL Y)) [] M = some (.inr E, M1)) (hY : Y ∈ m_Xs) (hsz : m_sz as ≤ m_nth m_mlL Y) : vx_Met l (m_nm Y) (m_wY Y) (m_rm Y (m_dc M M1 + 1)) (m_Pc g M as) (m_QX g) (m_XC g E M1) (m_dc M M1 + 1) (6 * (m_dc M M1 + 1)) (m_A g) := by
  have hh : m_hh Y = [] := m_run_thr _ _ _ _ _ _ _ _ hY h
  refine vx_ofW (cc := m_code Y) (maxL := m_ml Y) (ret := m_rt Y) (ws' := lw_g) (m_row_ok hY).1 (by unfold m_wY; rw [m_cwr_0 hh]) ?_
  intro p e s m args below meth c s₁ B hml hnt hv
  have htab : c.exceptionTable.toList = tableOf (m_hh Y) := by
    rw [hh]
    cases hl : c.exceptionTable.toList with
    | nil => rfl
    | cons a t => exact (hnt a (by rw [hl]; exact List.mem_cons_self)).elim
  have C := m_bodyC hst hap hY B hml htab ⟨Nat.le_refl _, Nat.le_refl _⟩ hv
  refine m_bodyW hY hsz hv (ih Y 0 _ [] M (.inr E) M1 h (m_Xs_lt Y hY) (m_ent_len _ _ hsz) p e _ s m args below meth c 0 0 _ C ⟨by show 0 + m_dc M M1 ≤ m_dc M M1 + 1; omega, by show 0 + 6 * m_dc M M1 ≤ 6 * (m_dc M M1 + 1); omega⟩ ?_)
  rw [Nat.zero_add, Nat.zero_add]
  intro pc pl hpl ht hpc
  exact m_fin_thr C hpl ht hpc hnt ⟨by show m_dc M M1 + 1 ≤ m_dc M M1 + 1; omega, by show 6 * m_dc M M1 + 6 ≤ 6 * (m_dc M M1 + 1); omega⟩
end MAIN
