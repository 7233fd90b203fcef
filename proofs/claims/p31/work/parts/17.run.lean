/-! CALLS, and the whole run. -/
theorem m_hh0 : m_Xs.all (fun X => Nat.beq (m_sta X) 1 || (m_hh X).isEmpty) = true := by decide +kernel
theorem m_hh2 : (List.range 9).all (fun o => (m_CT o).all (fun e => !(Nat.beq e.2.2 2) || (m_hh e.2.1).isEmpty)) = true := by decide +kernel
theorem m_owns : (List.range 117).all (fun X => Nat.blt (m_nth m_ownL X) 9) = true := by decide +kernel
theorem m_hh0_ok {Y : Nat} (hY : Y ∈ m_Xs) (h : m_sta Y = 0) : m_hh Y = [] := by
  have h1 := List.all_eq_true.mp m_hh0 Y hY
  rw [h] at h1
  exact List.isEmpty_iff.mp (show (m_hh Y).isEmpty = true from h1)
theorem m_hh2_ok {X k Y : Nat} (hX : X < 117) (h : m_look (m_CT (m_nth m_ownL X)) k = some (Y, 2)) : m_hh Y = [] := by
  have h0 := Nat.blt_eq.mp (List.all_eq_true.mp m_owns X (List.mem_range.mpr hX))
  have h1 := List.all_eq_true.mp (List.all_eq_true.mp m_hh2 _ (List.mem_range.mpr h0)) _ (m_look_s h)
  exact List.isEmpty_iff.mp (show (m_hh Y).isEmpty = true from h1)
section CALLS
variable {g : m_G} {X Y : Nat} {p : Program} {l : Launch} {e : Env} {R : Room} {s : State} {m : MethodId} {args : Array Value} {below : List Frame} {meth : Method} {c : Code} {H : Heap} {locs : List Loc} {cells slots : Nat} {Q : State → Prop} {M M1 M2 : m_Mem} {as : List Value} {ls : Array Slot} {pl : List (Option Value)}
theorem m_roomY (hY : Y ∈ m_Xs) (hlt : m_nth m_depL Y < m_nth m_depL X) (hR : m_nth m_depL X ≤ R.frames ∧ 40 * m_nth m_depL X ≤ R.locals) {dc : Nat} : (m_rm Y dc).frames + 1 ≤ R.frames ∧ 8 + (m_ml Y + 11) + (m_rm Y dc).locals ≤ R.locals := by
  have h21 := (m_row_ok hY).2.2.2.2.1
  rw [(m_agree hY).2.2.1] at h21
  obtain ⟨h1, h2⟩ := hR
  constructor
  · show m_nth m_depL Y + 1 ≤ R.frames
    omega
  · show 8 + (m_ml Y + 11) + 40 * m_nth m_depL Y ≤ R.locals
    omega
theorem m_pcU (hK : m_Kst g s) (hP : m_P g M H) (hM : m_Mst g M) (hS : va_S (m_A g) s.heap H locs) : ∀ U : State, U.heap = H → s.WarmedH U.vm → m_Pc g M as (as.map (m_tv g)).toArray U := fun U hU hW => ⟨rfl, by rw [hU]; exact hP, hM, m_Kst_call hK hS hU hW⟩
theorem m_recvC (hK : m_Kst g s) (hP : m_P g M H) (hY : Y ∈ m_Xs) (hs : m_sta Y = 0) {x : Nat} (hk : m_ka x = m_kd (m_nth m_ownL Y)) (hm : m_dom (m_ka x) (m_kb x) (m_kc x) = true) : ∃ cell : Cell, H[g.1 (m_ka x) (m_kb x) (m_kc x)]? = some cell ∧ cell.vm.isStatics = false ∧ s.vm.findClass (m_nm Y).cls = some cell.cls := by
  obtain ⟨h7, hci, h24⟩ := m_recv_ok hY hs
  rw [(m_row_ok hY).2.1]
  rw [hk] at hm ⊢
  have hok := m_ci_in (m_kd (m_nth m_ownL Y)) (by rw [hci]; exact h7)
  obtain ⟨i, hi⟩ := List.getElem?_of_mem (m_DL_mem hm h24)
  have he := m_wl_at (g := g) (M := M) hi
  rw [m_en_obj (m_OK_at _ hok).1, hci] at he
  exact va_recv hK.1 hP (m_vw _ h7) he
theorem m_cwVY (C : m_C g X p l R s m args meth c) (hY : Y ∈ m_Xs) (hs : m_sta Y = 0) {k pc : Nat} {st as st' : List Value} {pc' : Nat} {b : Bool} (hk : m_look (m_CT (m_nth m_ownL X)) k = some (Y, 0)) (hc : m_cinfo X Y pc b st as pc' st') (dc : Nat) :
    CallW R s args (m_cn (m_nth m_ownL X)) (m_nm Y).cls k (m_nm Y) (m_code Y) (m_ml Y) (m_rt Y) (m_wY Y) (m_rm Y dc) dc (6 * dc) (as.length - 1) := by
  obtain ⟨hx, hb, hml, hown, hts, hR, htab, hst9, hKst, hap, hlk⟩ := C
  obtain ⟨-, -, r3, r4, -, -⟩ := m_row_ok hY
  have hw := m_CT_ok _ hk
  have hh := m_hh0_ok hY hs
  have hcw : m_wY Y = Cond.code (m_nm Y) (m_code Y) (m_ml Y) (m_rt Y) :: lw_g := by unfold m_wY; rw [m_cwr_0 hh]
  refine cwV _ hts (m_gi ?_) hcw rfl rfl ⟨rfl, r3.1, r3.2, ?_⟩ (m_roomY hY hc.2.2.2.1 hR)
  · intro w hw2
    rcases List.mem_append.mp hw2 with h | h
    · exact hw w h
    · exact m_wY_in hY w h
  · rw [r4, hs, hc.2.2.1]
theorem m_callRun (C : m_C g X p l R s m args meth c) (hX : X < 117) (hpl : pl.length = m_nth m_mlL X) (hl : m_LR g ls pl) (hP : m_P g M H) (hM : m_Mst g M) (hS : va_S (m_A g) s.heap H locs) {k d pc pc' : Nat} {i : Instr} {b : Bool} {st st' : List Value} (hd : decode (m_code X) pc = .ok (i, 3)) (hk : m_look (m_CT (m_nth m_ownL X)) k = some (Y, d)) (hc : m_cinfo X Y pc b st as pc' st')
    (hi : (d = 0 ∧ b = true ∧ i = .invokevirtual k) ∨ ((d = 1 ∨ d = 2) ∧ b = false ∧ i = .invokestatic k)) {dc : Nat} {Qc : Array Value → State → Outcome → State → Prop} (hMet : Met l (m_nm Y) (m_wY Y) (m_rm Y dc) (m_Pc g M as) Qc dc (6 * dc) (m_A g)) (hRR : cells + dc ≤ R.cells ∧ slots + 6 * dc ≤ R.slots) :
    va_Run p l e R s m args below meth c H locs cells slots dc (6 * dc) (F0 m pc ls (st.map (m_tv g))) (st'.map (m_tv g)) (Qc (as.map (m_tv g)).toArray) (m_A g) := by
  have C9 := C
  obtain ⟨hx, hb, hml, hown, hts, hR, htab, hst9, hKst, hap, hlk⟩ := C
  obtain ⟨hY, hY0, hY1⟩ := m_CT_in _ hk
  have hw := m_CT_ok _ hk
  obtain ⟨-, r2, r3, r4, -, r6⟩ := m_row_ok hY
  have hS5 : CallFix p m c (m_code X) (m_nth m_mlL X) s args lw_g (m_cn (m_nth m_ownL X)) := ⟨hx, hb, hml, hown, hts⟩
  have hU := m_pcU (as := as) hKst hP hM hS
  have hsize : ls.size = m_nth m_mlL X := hl.1.trans hpl
  have hsum := m_sz_le (g := g) hc.2.2.2.2.2.1
  rcases hi with ⟨rfl, rfl, rfl⟩ | ⟨h12, rfl, rfl⟩
  · have hs := hY0 rfl
    have cw := m_cwVY C9 hY hs hk hc dc
    obtain ⟨hc1, hc2, hc3, hc4, hc5, hc6, hc7⟩ := hc
    obtain ⟨x, t, rfl, hka, hdm⟩ := hc7 rfl
    have hcell := m_recvC (Y := Y) hKst hP hY hs hka hdm
    refine va_runV (g := F0 m pc ls (st.map (m_tv g))) (b := g.1 (m_ka x) (m_kb x) (m_kc x)) (As := t.map (m_tv g)) (rest := st'.map (m_tv g)) hS5 hMet cw ⟨m_blind, hcell, hU⟩ rfl ?_ hsize ?_ ?_ hd hRR
    · rw [List.length_map]
      rfl
    · show st.map (m_tv g) = _
      rw [hc2]
      simp [m_tv]
    · show 2 * 0 + _ ≤ 8
      omega
  · have hs : m_sta Y = 1 := hY1 (by omega)
    have hn : (as.map (m_tv g)).length = as.length := List.length_map ..
    have hpar : (parseMethodDescriptor (m_nm Y).desc).map (fun d => d.parameters.length) = some as.length := by rw [r4, hs, hc.2.2.1]; rfl
    have hstk : (F0 m pc ls (st.map (m_tv g))).stack = (as.map (m_tv g)).reverse ++ st'.map (m_tv g) := by
      show st.map (m_tv g) = _
      rw [hc.2.1]
      simp
    have hmon : 2 * (F0 m pc ls (st.map (m_tv g))).monitorRoom + ((st'.map (m_tv g)).map fun v => v.category).sum ≤ 8 := by
      show 2 * 0 + _ ≤ 8
      omega
    have hroom := m_roomY (R := R) hY hc.2.2.2.1 hR (dc := dc)
    rcases h12 with rfl | rfl
    · have hG : GoodIn lw_g (va_wsS (m_cn (m_nth m_ownL X)) k (m_nm Y) (m_wY Y)) := by
        refine m_gi fun w hw2 => ?_
        rcases List.mem_append.mp hw2 with h | h
        · exact hw w h
        · exact m_wY_in hY w h
      by_cases hh : m_hh Y = []
      · have hcw : m_wY Y = Cond.code (m_nm Y) (m_code Y) (m_ml Y) (m_rt Y) :: lw_g := by unfold m_wY; rw [m_cwr_0 hh]
        exact va_runS hS5 hMet (va_cwS as.length hts hG hcw rfl rfl ⟨r3.1, r3.2, hpar⟩ hroom) ⟨m_blind, hU⟩ rfl hn hsize hstk hmon hd hRR
      · have hcw : m_wY Y = Cond.codeWith (m_nm Y) (m_code Y) (m_ml Y) (m_rt Y) (m_hh Y) :: lw_g := by unfold m_wY; rw [m_cwr_1 hh]
        exact vx_runSW hS5 hMet (vx_cwSW as.length hts hG hcw rfl rfl ⟨r3.1, r3.2, hpar⟩ hroom) ⟨m_blind, hU⟩ rfl hn hsize hstk hmon hd hRR
    · have hh := m_hh2_ok hX hk
      have hcw : m_wY Y = Cond.code (m_nm Y) (m_code Y) (m_ml Y) (m_rt Y) :: lw_g := by unfold m_wY; rw [m_cwr_0 hh]
      have hnest : va_Nw (.methodLinkNest (m_cn (m_nth m_ownL X)) k (m_nm Y) "FineScrip") s := hKst.2.2.2.2.2.1 _ (m_nests_in _ hk)
      have hst : (Cond.static (m_nm Y)).before args s = true := hts _ (hw _ List.mem_cons_self)
      have hin : (Cond.initialized (m_nm Y).cls).before args s = true := hts _ (hw _ (List.mem_cons_of_mem _ List.mem_cons_self))
      exact va_runSN hS5 hMet ⟨va_cnB as.length hts (m_gi (m_wY_in hY)) hcw rfl rfl hnest hin ⟨r3.1, r3.2, hpar⟩ hroom, hst, trivial⟩ ⟨m_blind, hU⟩ rfl hn hsize hstk hmon hd hRR
theorem m_callr {dc pc : Nat} {st0 rest : List Value} {v : Option Value} {a : Array Value} (hr : va_Run p l e R s m args below meth c H locs cells slots dc (6 * dc) (F0 m pc ls st0) rest (m_Qc g M1 v a) (m_A g)) (hS : va_S (m_A g) s.heap H locs)
    (kk : ∀ (H1 : Heap) (locs1 : List Loc), m_P g M1 H1 → m_Mst g M1 → va_S (m_A g) s.heap H1 locs1 → W p l e R s m args below meth c H1 locs1 (cells + dc) (slots + 6 * dc) Q (F0 m (pc + 3) ls ((v.map (m_tv g)).toList ++ rest))) : W p l e R s m args below meth c H locs cells slots Q (F0 m pc ls st0) := by
  intro T hT X'
  obtain ⟨v', st₀, t, T', L, h0, X', hL, e1, e2, ⟨hv, hP, hM, hF⟩, st⟩ := hr T hT X'
  cases hv
  obtain ⟨k1, k2, k3⟩ := vx_keep h0 e1 hS (fun q _ h => h) (fun q h => h) hL hF
  obtain ⟨t2, a1, b1⟩ := kk T'.heap (locs ++ L) (by rw [e1]; exact hP) hM k3 T' rfl X'
  exact ⟨t2, st t2 a1, b1⟩
/-- a call that throws, caught here -/
theorem m_callx (C : m_C g X p l R s m args meth c) (hX : X < 117) (hpl : pl.length = m_nth m_mlL X) {k pc pc' : Nat} {st st' : List Value} {E : String} {kv : Int32} (hd : decode (m_code X) pc = .ok (.invokevirtual k, 3)) (hk : m_look (m_CT (m_nth m_ownL X)) k = some (Y, 0)) (hc : m_cinfo X Y pc true st as pc' st')
    {dc : Nat} (hMet : vx_Met l (m_nm Y) (m_wY Y) (m_rm Y dc) (m_Pc g M as) (m_QX g) (m_XC g E M1) dc (6 * dc) (m_A g)) (hRR : cells + dc ≤ R.cells ∧ slots + 6 * dc ≤ R.slots) (hdl : m_hdl X pc E kv)
    (hend : m_End g X p l e R s m args below meth c (cells + dc) (slots + 6 * dc) Q (.inl (some (.int kv))) (m_bump M1)) : m_Go g p l e R s m args below meth c cells slots Q pc pl st M := by
  intro ls H locs hl hP hM hS
  have C9 := C
  obtain ⟨hx, hb, hml, hown, hts, hR, htab, hst9, hKst, hap, hlk⟩ := C
  obtain ⟨hY, hY0, hY1⟩ := m_CT_in _ hk
  have hS5 : CallFix p m c (m_code X) (m_nth m_mlL X) s args lw_g (m_cn (m_nth m_ownL X)) := ⟨hx, hb, hml, hown, hts⟩
  have hU := m_pcU (as := as) hKst hP hM hS
  have hsize : ls.size = m_nth m_mlL X := hl.1.trans hpl
  have hsum := m_sz_le (g := g) hc.2.2.2.2.2.1
  have hs := hY0 rfl
  have cw := m_cwVY C9 hY hs hk hc dc
  obtain ⟨hc1, hc2, hc3, hc4, hc5, hc6, hc7⟩ := hc
  obtain ⟨x, t, rfl, hka, hdm⟩ := hc7 rfl
  have hcell := m_recvC (Y := Y) hKst hP hY hs hka hdm
  have hr := vx_runV (g := F0 m pc ls (st.map (m_tv g))) (p := p) (l := l) (e := e) (below := below) (meth := meth) (locs := locs) (cells := cells) (slots := slots) (b := g.1 (m_ka x) (m_kb x) (m_kc x)) (As := t.map (m_tv g)) (rest := st'.map (m_tv g)) hS5 hMet cw ⟨m_blind, hcell, hU⟩ rfl (by rw [List.length_map]; rfl) hsize (by show st.map (m_tv g) = _; rw [hc2]; simp [m_tv]) (by show 2 * 0 + _ ≤ 8; omega) hd hRR
  refine vx_calli hr hS (fun _ _ h => h) (fun _ h => h) (fun _ _ h => h) (fun E' ce q9 u t9 H1 locs1 e1 e2 _ hB h5 h6 hS1 h8 h9 h10 => ?_) (fun r u t9 H1 locs1 e1 e2 hB => hB.elim)
  obtain ⟨rfl, hP1, hM1⟩ := hB
  rw [e1] at hP1
  obtain ⟨pre, suf, xe, h2, h3, hsp, hpre, hcov, h0, hlink, hcast, hast, hcon, hret, hrs, -⟩ := hdl
  have hvw : lv_has ls (m_nth m_mlL X) [] := ⟨hsize, hl.2.1, fun _ h => absurd h List.not_mem_nil⟩
  have hgo : ∀ ls' : Array Slot, ls'.size = m_nth m_mlL X → lv_wf ls' → W p l e R s m args below meth c H1 locs1 (cells + dc) (slots + 6 * dc) Q (F0 m h2 ls' []) := by
    intro ls' z1 z2
    have hfin : W p l e R s m args below meth c H1 locs1 (cells + dc) (slots + 6 * dc) Q (F0 m h3 ls' [.int kv]) :=
      hend h3 .ireturn (m_nones (m_nth m_mlL X)) (m_nones_len _) hret (Or.inl ⟨rfl, kv, rfl, by rw [hrs]; rfl⟩) ls' H1 locs1 ⟨z1.trans (m_nones_len _).symm, z2, fun j v hj => (m_nones_lg _ _ _ hj).elim⟩ (m_bump_P hP1) (m_bump_Mst hM1) hS1
    rcases hcon with ⟨n, d1, d2, rfl⟩ | ⟨n, d1, d2, rfl⟩
    · exact lv_iconst hx hb d1 d2 hfin
    · exact lv_bipush hx hb d1 d2 hfin
  refine vx_catch hown pre xe suf (htab.trans hsp) (fun z hz => ?_) hcov h0 (hts _ hlink) (va_Nw.use (m_nests_ot _ hcast) (hKst.2.2.2.2.2.1 _ hcast)) h8 h9 h10 ?_
  · obtain ⟨z0, nm, z1, z2⟩ := hpre z hz
    exact Or.inr ⟨z0, nm, hts _ z1, hKst.2.2.2.2.2.2.2 _ z2⟩
  · rcases hast with ⟨q, q1, q2, q3⟩ | ⟨q, q1, q2, q3⟩
    · exact lv_astore_n (i := q.val) hx hb q2 rfl hvw q1 rfl (fun ls' hv => by rw [← q3]; exact hgo ls' hv.1 hv.2.1)
    · exact lv_astore hx hb q2 hvw q1 rfl (fun ls' hv => by rw [← q3]; exact hgo ls' hv.1 hv.2.1)
theorem m_main (hst : l.stackTraces = false) (hap : m_ap g) : ∀ n, m_IH g l n := by
  intro n
  induction n with
  | zero => intro X pc pl st M o M1 h; unfold m_run at h; cases h
  | succ n ih =>
    intro X pc pl st M o M1 h hX hpl p e R s m args below meth c cells slots Q C hR hE
    unfold m_run at h
    cases h1 : m_dec X pc with
    | none => rw [h1] at h; cases h
    | some q =>
      obtain ⟨i, len⟩ := q
      rw [h1] at h
      dsimp only at h
      cases h2 : m_nxt X i len pc pl st M with
      | none => rw [h2] at h; cases h
      | some z =>
        rw [h2] at h
        have hkind := m_nxt_kind h2
        have hd := m_dec_s h1
        match z, h, h2, hkind with
        | .inl (pc', pl', st', M'), h, h2, hkind =>
          have ed : m_dc M M1 = m_dc M' M1 := by unfold m_dc; rw [m_nxt_cnt2 h2]
          rw [ed] at hR hE
          exact m_step C hpl h1 h2 (fun hpl' => ih _ _ _ _ _ _ _ h hX hpl' p e R s m args below meth c cells slots Q C hR hE)
        | .inr (.inr (.inl v)), h, h2, hkind =>
          cases h
          obtain ⟨rfl, rfl, hi⟩ := hkind
          have ed : m_dc M M = 0 := Nat.sub_self _
          rw [ed] at hE
          exact hE pc i pl hpl hd hi
        | .inr (.inr (.inr E)), h, h2, hkind =>
          cases h
          obtain ⟨rfl, ht⟩ := hkind
          have ed : m_dc M M = 0 := Nat.sub_self _
          rw [ed] at hE
          exact hE pc pl hpl ht (Nat.lt_trans (m_dec_b hX hd) (by decide))
        | .inr (.inl (Y, as, pc', st')), h, h2, hkind =>
          obtain ⟨k, d, b, rfl, hk, hc, hi⟩ := hkind
          obtain ⟨hY, hY0, hY1⟩ := m_CT_in _ hk
          dsimp only at h
          cases h3 : m_run n Y 0 (m_ent as (m_nth m_mlL Y)) [] M with
          | none => rw [h3] at h; cases h
          | some w =>
            rw [h3] at h
            match w, h, h3 with
            | (.inl v, M2), h, h3 =>
              have c1 := m_run_cnt _ _ _ _ _ _ _ _ h3
              have c2 := m_run_cnt _ _ _ _ _ _ _ _ h
              have ed : m_dc M M1 = m_dc M M2 + m_dc M2 M1 := by unfold m_dc; omega
              have es : slots + 6 * m_dc M M1 = slots + 6 * m_dc M M2 + 6 * m_dc M2 M1 := by rw [ed]; omega
              have ec : cells + m_dc M M1 = cells + m_dc M M2 + m_dc M2 M1 := by rw [ed]; omega
              rw [es, ec] at hR hE
              have hMet := m_met hst hap ih h3 hY hc.2.2.2.2.1
              intro ls H locs hl hP hM hS
              have hr := m_callRun (e := e) (below := below) (cells := cells) (slots := slots) C hX hpl hl hP hM hS hd hk hc hi hMet ⟨by omega, by omega⟩
              refine m_callr hr hS (fun H1 locs1 hP1 hM1 hS1 => ?_)
              have hk2 := ih X pc' pl (v.toList ++ st') M2 o M1 h hX hpl p e R s m args below meth c (cells + m_dc M M2) (slots + 6 * m_dc M M2) Q C hR hE ls H1 locs1 hl hP1 hM1 hS1
              rw [hc.1] at hk2
              have est : (v.toList ++ st').map (m_tv g) = (v.map (m_tv g)).toList ++ st'.map (m_tv g) := by cases v <;> rfl
              rw [est] at hk2
              exact hk2
            | (.inr E, M2), h, h3 =>
              have c1 := m_run_cnt _ _ _ _ _ _ _ _ h3
              obtain ⟨kv, hkk, rfl, rfl, hb1⟩ := m_tx_s h
              have ed : m_dc M (m_bump M2) = m_dc M M2 + 1 := by unfold m_dc; rw [hb1]; omega
              rw [ed] at hR hE
              have hMet := m_metX hst hap ih h3 hY hc.2.2.2.2.1
              have hpc3 : pc + 3 < 65536 := by
                have h9 := m_dec_b hX hd
                omega
              have hdl := m_hk_ok (hc.1 ▸ hkk) hpc3
              have hdl2 := hdl
              obtain ⟨pre, suf, xe, h02, h03, -, -, -, -, -, -, -, -, -, -, k9, hk9⟩ := hdl2
              rcases hi with ⟨rfl, rfl, rfl⟩ | ⟨h12, rfl, rfl⟩
              · exact m_callx C hX hpl hd hk hc hMet hR hdl hE
              · rw [hd] at hk9
                cases hk9
end CALLS
