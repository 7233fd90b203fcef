/-! THE MODEL'S CONSTRUCTOR (by wip/gen/g81.py). -/
/-- the model's array of states with c claims laid -/
def j_ml : Nat → Nat → Int32
  | 0 => upd (upd (upd (upd (upd (fun _ => 0) 8 750) 9 40) 10 5) 11 7) 12 10
  | c + 1 => upd (upd (j_ml c) (77 + 6 * c) 800) (77 + 6 * c + 1) (-1)
def e_I (ca : Nat → ClassId) (a n : Nat) (f : Nat → Int32) : Nat × va_E := (a, .inl (ca 1, n, .inl f))
theorem j_idx : ∀ c, c < 10 → ∀ k, k < 2 → (77 : Int32) + 6 * nI c + nI k = nI (77 + 6 * c + k) := by decide
def j_wl (ca : Nat → ClassId) (b sa : Nat) (fs : List Value) (f : Nat → Int32) : va_W := [(b, .inr (6, fs)), e_I ca sa 173 f]
set_option maxHeartbeats 2000000 in
set_option maxRecDepth 20000 in
theorem j_lays (l : Launch) (D : va_G) (ca : Nat → ClassId) (b sa : Nat) (fs : List Value) (hfs : fs[0]? = some (.ref sa)) (f : Nat → Int32) (i k : Nat) (hi : i < 10) (hk : k < 2) (v : Int32) (sz : Nat) :
    Met l (m_nm 114) (m_wY 114) (j_rm 0 0 1) (va_Pc [.ref b, .int (nI i), .int (nI k), .int v] (fun U => U.heap.size = sz ∧ va_P D vwCl (j_wl ca b sa fs f) U.heap ∧ va_K D vwCl (j_tl ca [1]) U ∧ va_D (fun _ => True) (j_wl ca b sa fs f)))
      (va_Qv (fun _ : Unit => True) (fun _ t => va_P D vwCl (j_wl ca b sa fs (upd f (77 + 6 * i + k) v)) t.heap ∧ va_D (va_A (j_wl ca b sa fs f) sz) (j_wl ca b sa fs (upd f (77 + 6 * i + k) v))) (va_A (j_wl ca b sa fs f) sz)) 0 0 (va_A (j_wl ca b sa fs f) sz) := by
  have hw : m_wY 114 = Cond.code (m_nm 114) (m_code 114) (m_ml 114) none :: lw_g := by
    show m_cwr (m_row 114) :: lw_g = _
    rw [m_cwr_0 rfl]
    rfl
  refine Met.ofW (cc := m_code 114) (maxL := m_ml 114) (ret := none) (ws' := lw_g) (m_row_ok (by decide +kernel)).1 hw ?_
  intro p e s m args below meth c s₁ B hml hv
  obtain ⟨rfl, hsz, hP, hK, hD0⟩ := hv
  have hx := B.exec
  have hb : c.code = cX6_lays := B.bytes
  have hts9 := atoms_spec (ws := m_wY 114) B.pre
  have hts : ∀ w ∈ lw_g, w.before ([.ref b, .int (nI i), .int (nI k), .int v] : List Value).toArray s = true := fun w hw => hts9 w (List.mem_cons_of_mem _ hw)
  have hown : s.vm.findClass RX6 = some m.cls := by
    have h : RX6 = (m_nm 114).cls := rfl
    rw [h]
    exact findClass_of_methodNamed B.named
  subst hsz
  have hD := hD0.self (sz := s.heap.size)
  show W p l e (j_rm 0 0 1) s m ([.ref b, .int (nI i), .int (nI k), .int v] : List Value).toArray below meth c s.heap [] 0 0 (MQ below _ _ s 0 0 (va_A (j_wl ca b sa fs f) s.heap.size)) _
  have hS : va_S (va_A (j_wl ca b sa fs f) s.heap.size) s.heap s.heap [] := va_S.rf
  have hl := lv_entry ([.ref b, .int (nI i), .int (nI k), .int v]) (n := m_ml 114) (by show 4 ≤ m_ml 114; decide +kernel)
  rw [lg_entry_eq]
  generalize (lg_sl ([.ref b, .int (nI i), .int (nI k), .int v]) ++ List.replicate (m_ml 114 - (lg_sl ([.ref b, .int (nI i), .int (nI k), .int v])).length) Slot.unset).toArray = ls at hl ⊢
  have hl : lv_has ls (m_ml 114) [(0, .ref b), (1, .int (nI i)), (2, .int (nI k)), (3, .int v)] := hl
  refine lv_aload_n hx hb (show decode cX6_lays 0 = .ok (.aload_n 0, 1) by decide +kernel) rfl (lv_at hl 0 rfl) ?_
  refine va_get (D := D) (ci := 6) (v := .ref sa) (C := RX6) (T := TX6) (N := 11) hx hb hts (m_lay 6 (by decide)) hown hK hP 0 rfl rfl 0 (by decide) (hts _ jf_6_s) (fun _ h9 => h9) hfs (show decode cX6_lays 1 = .ok (.getfield 7, 3) by decide +kernel) ?_
  refine lv_bipush (v := 77) hx hb (show decode cX6_lays 4 = .ok (.bipush 77, 2) by decide +kernel) (by decide) ?_
  refine lv_bipush (v := 6) hx hb (show decode cX6_lays 6 = .ok (.bipush 6, 2) by decide +kernel) (by decide) ?_
  refine lv_iload_n hx hb (show decode cX6_lays 8 = .ok (.iload_n 1, 1) by decide +kernel) rfl (lv_at hl 1 rfl) ?_
  refine lv_imul hx hb (show decode cX6_lays 9 = .ok (.imul, 1) by decide +kernel) ?_
  refine lv_iadd hx hb (show decode cX6_lays 10 = .ok (.iadd, 1) by decide +kernel) ?_
  refine lv_iload_n hx hb (show decode cX6_lays 11 = .ok (.iload_n 2, 1) by decide +kernel) rfl (lv_at hl 2 rfl) ?_
  refine lv_iadd hx hb (show decode cX6_lays 12 = .ok (.iadd, 1) by decide +kernel) ?_
  rw [j_idx i hi k hk]
  refine lv_iload_n hx hb (show decode cX6_lays 13 = .ok (.iload_n 3, 1) by decide +kernel) rfl (lv_at hl 3 rfl) ?_
  have hz : vp_in (nI (77 + 6 * i + k)) 173 := vp_in_nI (by omega) (by decide)
  refine va_iast (D := D) hx hb hK hP hD hS 1 0 rfl rfl hz (show decode cX6_lays 14 = .ok (.iastore, 1) by decide +kernel) (fun H1 locs1 hP hD hS => ?_)
  rw [nI_clamp (by omega)] at hP hD
  exact W.vret hx hb B.returns (fun t ht hW => ⟨⟨(), rfl, trivial, by rw [ht]; exact hP, hD⟩, hS.F ht⟩) hS.2.2 (show decode cX6_lays 15 = _ by decide +kernel)
section MODEL
variable {p : Program} {l : Launch} {e : Env} {R : Room} {s : State} {m : MethodId} {args : Array Value} {below : List Frame} {meth : Method} {c : Code} {Q : State → Prop} {D : va_G} {ca : Nat → ClassId} {A : Nat → Prop}
set_option maxRecDepth 20000 in
/-- lays is called -/
theorem j_callL (CF : CallFix p m c cX6_init 2 s args lw_g RX6) (hK : va_K D vwCl (j_tl ca [1]) s) (hA : ∀ q, s.heap.size ≤ q → A q) (hRf : 2 ≤ R.frames ∧ 80 ≤ R.locals) {b sa : Nat} {fs : List Value} (hfs : fs[0]? = some (.ref sa)) {f : Nat → Int32} {T : va_W} {H : Heap} {locs : List Loc} {cells slots pc : Nat} (hRc : cells ≤ R.cells ∧ slots ≤ R.slots)
    (hP : va_P D vwCl (j_wl ca b sa fs f ++ T) H) (hD : va_D A (j_wl ca b sa fs f ++ T)) (hS : va_S A s.heap H locs) {i k : Nat} (hi : i < 10) (hk : k < 2) {v : Int32} {ls : Array Slot} (hls : ls.size = 2) (hdg : decode cX6_init pc = .ok (.invokevirtual 29, 3))
    (kk : ∀ (H1 : Heap) (locs1 : List Loc), va_P D vwCl (j_wl ca b sa fs (upd f (77 + 6 * i + k) v) ++ T) H1 → va_D A (j_wl ca b sa fs (upd f (77 + 6 * i + k) v) ++ T) → va_S A s.heap H1 locs1 → W p l e R s m args below meth c H1 locs1 cells slots Q (F0 m (pc + 3) ls [])) :
    W p l e R s m args below meth c H locs cells slots Q (F0 m pc ls [.int v, .int (nI k), .int (nI i), .ref b]) := by
  have hts := CF.2.2.2.2
  have hkk : m_look (m_CT (m_nth m_ownL 104)) 29 = some (114, 0) := by decide +kernel
  have hw : m_wY 114 = Cond.code (m_nm 114) (m_code 114) (m_ml 114) none :: lw_g := by
    show m_cwr (m_row 114) :: lw_g = _
    rw [m_cwr_0 rfl]
    rfl
  have hwV : ∀ w ∈ wsV RX6 29 RX6 (m_nm 114) (m_wY 114), w ∈ lw_g := by
    intro w hw2
    rcases List.mem_append.mp hw2 with h | h
    · exact m_CT_ok _ hkk w h
    · exact m_wY_in (by decide +kernel) w h
  have cw : CallW R s args RX6 RX6 29 (m_nm 114) (m_code 114) (m_ml 114) none (m_wY 114) (j_rm 0 0 1) 0 0 3 :=
    cwV 3 hts (m_gi hwV) hw rfl rfl ⟨rfl, by decide, by decide, rfl⟩ ⟨hRf.1, Nat.le_trans (show 8 + (m_ml 114 + 11) + 40 * 1 ≤ 80 by decide +kernel) hRf.2⟩
  have hcell := va_recv hK hP (show vwCl[6]? = some (RX6, TX6, 11) from rfl) (show (j_wl ca b sa fs f ++ T)[0]? = some (b, .inr (6, fs)) from rfl)
  have hF := va_free hD hS hA [0, 1] (wc := j_wl ca b sa fs f) rfl
  have hP0 : va_P D vwCl (j_wl ca b sa fs f) H := hP.sub [0, 1] rfl
  have hD0 : va_D (fun _ => True) (j_wl ca b sa fs f) := (hD.sub [0, 1] rfl rfl).weaken (fun _ _ _ _ => trivial)
  refine va_callv (va_runV (As := [.int (nI i), .int (nI k), .int v]) (b := b) (rest := []) CF (j_lays l D ca b sa fs hfs f i k hi hk v H.size) cw ⟨fun _ _ _ _ h => h, hcell, fun U hU hW => ⟨rfl, by rw [hU], by rw [hU]; exact hP0, va_K.moved hW.alike hK, hD0⟩⟩ rfl rfl hls rfl (show 0 ≤ 8 by decide) hdg hRc) hS (fun q _ h => hF q h) hF (fun u t H1 locs1 ht hvm _ hB _ hk1 hS1 => ?_)
  obtain ⟨hP1, hD1⟩ := hB
  rw [ht] at hP1
  obtain ⟨g1, g2⟩ := va_joinQ (X := j_wl ca b sa fs f) (pl := T) (wr := []) hP hD [0, 1] [] rfl rfl rfl (fun i h => absurd h List.not_mem_nil) hk1 hF hP1 hD1
  exact kk H1 locs1 g1 g2 hS1
set_option maxHeartbeats 2000000 in
set_option maxRecDepth 20000 in
/-- the loop that lays the claims -/
theorem j_lpM (CF : CallFix p m c cX6_init 2 s args lw_g RX6) (hK : va_K D vwCl (j_tl ca [1]) s) (hA : ∀ q, s.heap.size ≤ q → A q) (hRf : 2 ≤ R.frames ∧ 80 ≤ R.locals) {b sa : Nat} {fs : List Value} (hfs : fs[0]? = some (.ref sa)) {T : va_W} {cells slots : Nat} (hRc : cells ≤ R.cells ∧ slots ≤ R.slots)
    (kk : ∀ (H : Heap) (locs : List Loc) (ls : Array Slot), va_P D vwCl (j_wl ca b sa fs (j_ml 10) ++ T) H → va_D A (j_wl ca b sa fs (j_ml 10) ++ T) → va_S A s.heap H locs → W p l e R s m args below meth c H locs cells slots Q (F0 m 129 ls [])) :
    ∀ (n i : Nat) (H : Heap) (locs : List Loc) (ls : Array Slot), i + n = 10 → va_P D vwCl (j_wl ca b sa fs (j_ml i) ++ T) H → va_D A (j_wl ca b sa fs (j_ml i) ++ T) → va_S A s.heap H locs → lv_has ls 2 [(1, .int (nI i)), (0, .ref b)] →
      W p l e R s m args below meth c H locs cells slots Q (F0 m 101 ls []) := by
  obtain ⟨hx, hb, hml, hown, hts⟩ := id CF
  intro n
  induction n with
  | zero =>
    intro i H locs ls hn hP hD hS hl
    have hL : i = 10 := by omega
    subst hL
    refine lv_iload_n hx hb (show decode cX6_init 101 = .ok (.iload_n 1, 1) by decide +kernel) rfl (lv_at hl 0 rfl) ?_
    refine lv_bipush (v := 10) hx hb (show decode cX6_init 102 = .ok (.bipush 10, 2) by decide +kernel) (by decide) ?_
    refine lv_icmp_ge (tgt := 129) hx hb (show decode cX6_init 104 = .ok (.if_icmp .ge 25, 3) by decide +kernel) (by decide) (fun hc => ?_) (fun hc => ?_)
    · exact kk H locs ls hP hD hS
    · exact absurd (by decide : nI 10 ≤ nI 10) (by first | exact hc | exact Int32.not_le.mpr hc)
  | succ n ih =>
    intro i H locs ls hn hP hD hS hl
    have hL : i < 10 := by omega
    refine lv_iload_n hx hb (show decode cX6_init 101 = .ok (.iload_n 1, 1) by decide +kernel) rfl (lv_at hl 0 rfl) ?_
    refine lv_bipush (v := 10) hx hb (show decode cX6_init 102 = .ok (.bipush 10, 2) by decide +kernel) (by decide) ?_
    refine lv_icmp_ge (tgt := 129) hx hb (show decode cX6_init 104 = .ok (.if_icmp .ge 25, 3) by decide +kernel) (by decide) (fun hc => ?_) (fun hc => ?_)
    · exact absurd hc (nI_ge hL (by decide) : ¬ nI 10 ≤ nI i)
    · refine lv_aload_n hx hb (show decode cX6_init 107 = .ok (.aload_n 0, 1) by decide +kernel) rfl (lv_at hl 1 rfl) ?_
      refine lv_iload_n hx hb (show decode cX6_init 108 = .ok (.iload_n 1, 1) by decide +kernel) rfl (lv_at hl 0 rfl) ?_
      refine lv_iconst (v := nI 0) hx hb (show decode cX6_init 109 = .ok (.iconst 0, 1) by decide +kernel) (by decide) ?_
      refine lv_sipush (v := 800) hx hb (show decode cX6_init 110 = .ok (.sipush 800, 3) by decide +kernel) (by decide) ?_
      refine j_callL CF hK hA hRf hfs hRc hP hD hS hL (by decide) hl.1 (show decode cX6_init 113 = .ok (.invokevirtual 29, 3) by decide +kernel) (fun H locs hP hD hS => ?_)
      refine lv_aload_n hx hb (show decode cX6_init 116 = .ok (.aload_n 0, 1) by decide +kernel) rfl (lv_at hl 1 rfl) ?_
      refine lv_iload_n hx hb (show decode cX6_init 117 = .ok (.iload_n 1, 1) by decide +kernel) rfl (lv_at hl 0 rfl) ?_
      refine lv_iconst (v := nI 1) hx hb (show decode cX6_init 118 = .ok (.iconst 1, 1) by decide +kernel) (by decide) ?_
      refine lv_iconst (v := -1) hx hb (show decode cX6_init 119 = .ok (.iconst (-1), 1) by decide +kernel) (by decide) ?_
      refine j_callL CF hK hA hRf hfs hRc hP hD hS hL (by decide) hl.1 (show decode cX6_init 120 = .ok (.invokevirtual 29, 3) by decide +kernel) (fun H locs hP hD hS => ?_)
      refine lv_iinc (v := nI (i + 1)) (lv' := [(1, .int (nI (i + 1))), (0, .ref b)]) hx hb (show decode cX6_init 123 = .ok (.iinc 1 1, 3) by decide +kernel) hl (k := 0) rfl (nI_1 _) (by decide) rfl (fun ls hl => ?_)
      refine lv_goto (tgt := 101) hx hb (show decode cX6_init 126 = .ok (.goto (-25), 3) by decide +kernel) (by decide) ?_
      exact ih (i + 1) H locs ls (by omega) hP hD hS hl
end MODEL
abbrev j_S6 : Type := Nat × Nat × Nat × Nat × Nat × Nat
abbrev j_S6.sa (u : j_S6) : Nat := u.1
abbrev j_S6.pa (u : j_S6) : Nat := u.2.1
abbrev j_S6.sl (u : j_S6) : Nat := u.2.2.1
abbrev j_S6.ik (u : j_S6) : Nat := u.2.2.2.1
abbrev j_S6.te (u : j_S6) : Nat := u.2.2.2.2.1
abbrev j_S6.li (u : j_S6) : Nat := u.2.2.2.2.2
def j_W6 (ca : Nat → ClassId) (b : Nat) (u : j_S6) : va_W :=
  j_wl ca b (j_S6.sa u) [.ref (j_S6.sa u), .ref (j_S6.pa u), .ref (j_S6.sl u), .ref (j_S6.ik u), .int 0, .int 0, .ref (j_S6.te u), .int 0, .int 0, .int 0, .ref (j_S6.li u)] (j_ml 10) ++ [e_Z ca (j_S6.pa u) 1 1038, e_Z ca (j_S6.sl u) 1 346, e_Z ca (j_S6.ik u) 2 2, e_Z ca (j_S6.te u) 1 60, e_Z ca (j_S6.li u) 1 93]
set_option maxHeartbeats 4000000 in
set_option maxRecDepth 20000 in
theorem j_model (l : Launch) (D : va_G) (ca : Nat → ClassId) : j_Met l D ca 104 6 (fun _ : j_S6 => True) (j_W6 ca) [1, 2] 6 1712 2 := by
  refine j_start (k := 1) (by decide +kernel) rfl rfl rfl jo_6 (show decode cX6_init 0 = _ by decide +kernel) (show decode cX6_init 1 = _ by decide +kernel) (by decide +kernel) (by decide) ?_
  intro b p e s m args below meth c A ls ⟨CF, hE, hr, hin, hlocks, hA, hP, hD, hl⟩
  have CF : CallFix p m c cX6_init 2 s args lw_g RX6 := CF
  obtain ⟨hx, hb, hml, hown, hts⟩ := id CF
  have hl : lv_has ls 2 [(0, .ref b)] := hl
  generalize hQ : MQ below _ args s _ _ A = Q
  have hS : va_S A s.heap s.heap [] := va_S.rf
  have hK := hE.1
  refine lv_aload_n hx hb (show decode cX6_init 4 = .ok (.aload_n 0, 1) by decide +kernel) rfl (lv_at hl 0 rfl) ?_
  refine lv_sipush (v := 173) hx hb (show decode cX6_init 5 = .ok (.sipush 173, 3) by decide +kernel) (by decide) ?_
  refine va_newa (D := D) (atype := .int) (ty := .int) (N' := 173) (a0 := (173, .inl (fun _ => 0))) hx hb (hts _ ja_int) rfl hE.1 hP hD hS hA (fun _ => rfl) (by decide) (by decide) (by decide) (by show _ ≤ 6; omega) (by show _ ≤ 1712; omega) (show decode cX6_init 8 = .ok (.newarray .int, 2) by decide +kernel) (fun sa cA H hK0 hP hD hS => ?_)
  have eA : cA = ca 1 := j_uni (t := 1) hK0 hE.2.1
  subst eA
  refine va_putF (D := D) (ci := 6) (v := .ref sa) (ty := .array .int) (C := RX6) (T := TX6) (N := 11) hx hb hts (m_lay 6 (by decide)) tyX6 tyX6_ok nmX6 hown hK hP hD hS 0 rfl rfl 0 (by decide) (hts _ jf_6_s) (fun _ h9 => h9) rfl hin rfl (by decide +kernel) rfl rfl (Nat.le_of_ble_eq_true rfl) (show decode cX6_init 10 = .ok (.putfield 7, 3) by decide +kernel) (fun H locs hP hD hS => ?_)
  refine lv_aload_n hx hb (show decode cX6_init 13 = .ok (.aload_n 0, 1) by decide +kernel) rfl (lv_at hl 0 rfl) ?_
  refine lv_sipush (v := 1038) hx hb (show decode cX6_init 14 = .ok (.sipush 1038, 3) by decide +kernel) (by decide) ?_
  refine va_newa (D := D) (atype := .int) (ty := .int) (N' := 1038) (a0 := (1038, .inl (fun _ => 0))) hx hb (hts _ ja_int) rfl hE.1 hP hD hS hA (fun _ => rfl) (by decide) (by decide) (by decide) (by show _ ≤ 6; omega) (by show _ ≤ 1712; omega) (show decode cX6_init 17 = .ok (.newarray .int, 2) by decide +kernel) (fun pa cA H hK1 hP hD hS => ?_)
  have eA : cA = ca 1 := j_uni (t := 1) hK1 hE.2.1
  subst eA
  refine va_putF (D := D) (ci := 6) (v := .ref pa) (ty := .array .int) (C := RX6) (T := TX6) (N := 11) hx hb hts (m_lay 6 (by decide)) tyX6 tyX6_ok nmX6 hown hK hP hD hS 0 rfl rfl 1 (by decide) (hts _ jf_6_past) (fun _ h9 => h9) rfl hin rfl (by decide +kernel) rfl rfl (Nat.le_of_ble_eq_true rfl) (show decode cX6_init 19 = .ok (.putfield 13, 3) by decide +kernel) (fun H locs hP hD hS => ?_)
  refine lv_aload_n hx hb (show decode cX6_init 22 = .ok (.aload_n 0, 1) by decide +kernel) rfl (lv_at hl 0 rfl) ?_
  refine lv_sipush (v := 346) hx hb (show decode cX6_init 23 = .ok (.sipush 346, 3) by decide +kernel) (by decide) ?_
  refine va_newa (D := D) (atype := .int) (ty := .int) (N' := 346) (a0 := (346, .inl (fun _ => 0))) hx hb (hts _ ja_int) rfl hE.1 hP hD hS hA (fun _ => rfl) (by decide) (by decide) (by decide) (by show _ ≤ 6; omega) (by show _ ≤ 1712; omega) (show decode cX6_init 26 = .ok (.newarray .int, 2) by decide +kernel) (fun sl cA H hK2 hP hD hS => ?_)
  have eA : cA = ca 1 := j_uni (t := 1) hK2 hE.2.1
  subst eA
  refine va_putF (D := D) (ci := 6) (v := .ref sl) (ty := .array .int) (C := RX6) (T := TX6) (N := 11) hx hb hts (m_lay 6 (by decide)) tyX6 tyX6_ok nmX6 hown hK hP hD hS 0 rfl rfl 2 (by decide) (hts _ jf_6_slots) (fun _ h9 => h9) rfl hin rfl (by decide +kernel) rfl rfl (Nat.le_of_ble_eq_true rfl) (show decode cX6_init 28 = .ok (.putfield 16, 3) by decide +kernel) (fun H locs hP hD hS => ?_)
  refine lv_aload_n hx hb (show decode cX6_init 31 = .ok (.aload_n 0, 1) by decide +kernel) rfl (lv_at hl 0 rfl) ?_
  refine lv_iconst (v := 2) hx hb (show decode cX6_init 32 = .ok (.iconst 2, 1) by decide +kernel) (by decide) ?_
  refine va_newa (D := D) (atype := .boolean) (ty := .boolean) (N' := 2) (a0 := (2, .inl (fun _ => 0))) hx hb (hts _ ja_boolean) rfl hE.1 hP hD hS hA (fun _ => rfl) (by decide) (by decide) (by decide) (by show _ ≤ 6; omega) (by show _ ≤ 1712; omega) (show decode cX6_init 33 = .ok (.newarray .boolean, 2) by decide +kernel) (fun ik cA H hK3 hP hD hS => ?_)
  have eA : cA = ca 2 := j_uni (t := 2) hK3 hE.2.1
  subst eA
  refine va_putF (D := D) (ci := 6) (v := .ref ik) (ty := .array .boolean) (C := RX6) (T := TX6) (N := 11) hx hb hts (m_lay 6 (by decide)) tyX6 tyX6_ok nmX6 hown hK hP hD hS 0 rfl rfl 3 (by decide) (hts _ jf_6_isKept) (fun _ h9 => h9) rfl hin rfl (by decide +kernel) rfl rfl (Nat.le_of_ble_eq_true rfl) (show decode cX6_init 35 = .ok (.putfield 19, 3) by decide +kernel) (fun H locs hP hD hS => ?_)
  refine lv_aload_n hx hb (show decode cX6_init 38 = .ok (.aload_n 0, 1) by decide +kernel) rfl (lv_at hl 0 rfl) ?_
  refine lv_bipush (v := 60) hx hb (show decode cX6_init 39 = .ok (.bipush 60, 2) by decide +kernel) (by decide) ?_
  refine va_newa (D := D) (atype := .int) (ty := .int) (N' := 60) (a0 := (60, .inl (fun _ => 0))) hx hb (hts _ ja_int) rfl hE.1 hP hD hS hA (fun _ => rfl) (by decide) (by decide) (by decide) (by show _ ≤ 6; omega) (by show _ ≤ 1712; omega) (show decode cX6_init 41 = .ok (.newarray .int, 2) by decide +kernel) (fun te cA H hK6 hP hD hS => ?_)
  have eA : cA = ca 1 := j_uni (t := 1) hK6 hE.2.1
  subst eA
  refine va_putF (D := D) (ci := 6) (v := .ref te) (ty := .array .int) (C := RX6) (T := TX6) (N := 11) hx hb hts (m_lay 6 (by decide)) tyX6 tyX6_ok nmX6 hown hK hP hD hS 0 rfl rfl 6 (by decide) (hts _ jf_6_text) (fun _ h9 => h9) rfl hin rfl (by decide +kernel) rfl rfl (Nat.le_of_ble_eq_true rfl) (show decode cX6_init 43 = .ok (.putfield 23, 3) by decide +kernel) (fun H locs hP hD hS => ?_)
  refine lv_aload_n hx hb (show decode cX6_init 46 = .ok (.aload_n 0, 1) by decide +kernel) rfl (lv_at hl 0 rfl) ?_
  refine lv_bipush (v := 93) hx hb (show decode cX6_init 47 = .ok (.bipush 93, 2) by decide +kernel) (by decide) ?_
  refine va_newa (D := D) (atype := .int) (ty := .int) (N' := 93) (a0 := (93, .inl (fun _ => 0))) hx hb (hts _ ja_int) rfl hE.1 hP hD hS hA (fun _ => rfl) (by decide) (by decide) (by decide) (by show _ ≤ 6; omega) (by show _ ≤ 1712; omega) (show decode cX6_init 49 = .ok (.newarray .int, 2) by decide +kernel) (fun li cA H hK10 hP hD hS => ?_)
  have eA : cA = ca 1 := j_uni (t := 1) hK10 hE.2.1
  subst eA
  refine va_putF (D := D) (ci := 6) (v := .ref li) (ty := .array .int) (C := RX6) (T := TX6) (N := 11) hx hb hts (m_lay 6 (by decide)) tyX6 tyX6_ok nmX6 hown hK hP hD hS 0 rfl rfl 10 (by decide) (hts _ jf_6_list) (fun _ h9 => h9) rfl hin rfl (by decide +kernel) rfl rfl (Nat.le_of_ble_eq_true rfl) (show decode cX6_init 51 = .ok (.putfield 26, 3) by decide +kernel) (fun H locs hP hD hS => ?_)
  have hK1 : va_K D vwCl (j_tl ca [1]) s := hK0
  refine lv_aload_n hx hb (show decode cX6_init 54 = .ok (.aload_n 0, 1) by decide +kernel) rfl (lv_at hl 0 rfl) ?_
  refine va_get (D := D) (ci := 6) (v := .ref sa) (C := RX6) (T := TX6) (N := 11) hx hb hts (m_lay 6 (by decide)) hown hK hP 0 rfl rfl 0 (by decide) (hts _ jf_6_s) (fun _ h9 => h9) rfl (show decode cX6_init 55 = .ok (.getfield 7, 3) by decide +kernel) ?_
  refine lv_bipush (v := 8) hx hb (show decode cX6_init 58 = .ok (.bipush 8, 2) by decide +kernel) (by decide) ?_
  refine lv_sipush (v := 750) hx hb (show decode cX6_init 60 = .ok (.sipush 750, 3) by decide +kernel) (by decide) ?_
  refine va_iast (D := D) hx hb hK1 hP hD hS 1 0 rfl rfl (i := 8) (show vp_in 8 173 by unfold vp_in; decide) (show decode cX6_init 63 = .ok (.iastore, 1) by decide +kernel) (fun H locs hP hD hS => ?_)
  refine lv_aload_n hx hb (show decode cX6_init 64 = .ok (.aload_n 0, 1) by decide +kernel) rfl (lv_at hl 0 rfl) ?_
  refine va_get (D := D) (ci := 6) (v := .ref sa) (C := RX6) (T := TX6) (N := 11) hx hb hts (m_lay 6 (by decide)) hown hK hP 0 rfl rfl 0 (by decide) (hts _ jf_6_s) (fun _ h9 => h9) rfl (show decode cX6_init 65 = .ok (.getfield 7, 3) by decide +kernel) ?_
  refine lv_bipush (v := 9) hx hb (show decode cX6_init 68 = .ok (.bipush 9, 2) by decide +kernel) (by decide) ?_
  refine lv_bipush (v := 40) hx hb (show decode cX6_init 70 = .ok (.bipush 40, 2) by decide +kernel) (by decide) ?_
  refine va_iast (D := D) hx hb hK1 hP hD hS 1 0 rfl rfl (i := 9) (show vp_in 9 173 by unfold vp_in; decide) (show decode cX6_init 72 = .ok (.iastore, 1) by decide +kernel) (fun H locs hP hD hS => ?_)
  refine lv_aload_n hx hb (show decode cX6_init 73 = .ok (.aload_n 0, 1) by decide +kernel) rfl (lv_at hl 0 rfl) ?_
  refine va_get (D := D) (ci := 6) (v := .ref sa) (C := RX6) (T := TX6) (N := 11) hx hb hts (m_lay 6 (by decide)) hown hK hP 0 rfl rfl 0 (by decide) (hts _ jf_6_s) (fun _ h9 => h9) rfl (show decode cX6_init 74 = .ok (.getfield 7, 3) by decide +kernel) ?_
  refine lv_bipush (v := 10) hx hb (show decode cX6_init 77 = .ok (.bipush 10, 2) by decide +kernel) (by decide) ?_
  refine lv_iconst (v := 5) hx hb (show decode cX6_init 79 = .ok (.iconst 5, 1) by decide +kernel) (by decide) ?_
  refine va_iast (D := D) hx hb hK1 hP hD hS 1 0 rfl rfl (i := 10) (show vp_in 10 173 by unfold vp_in; decide) (show decode cX6_init 80 = .ok (.iastore, 1) by decide +kernel) (fun H locs hP hD hS => ?_)
  refine lv_aload_n hx hb (show decode cX6_init 81 = .ok (.aload_n 0, 1) by decide +kernel) rfl (lv_at hl 0 rfl) ?_
  refine va_get (D := D) (ci := 6) (v := .ref sa) (C := RX6) (T := TX6) (N := 11) hx hb hts (m_lay 6 (by decide)) hown hK hP 0 rfl rfl 0 (by decide) (hts _ jf_6_s) (fun _ h9 => h9) rfl (show decode cX6_init 82 = .ok (.getfield 7, 3) by decide +kernel) ?_
  refine lv_bipush (v := 11) hx hb (show decode cX6_init 85 = .ok (.bipush 11, 2) by decide +kernel) (by decide) ?_
  refine lv_bipush (v := 7) hx hb (show decode cX6_init 87 = .ok (.bipush 7, 2) by decide +kernel) (by decide) ?_
  refine va_iast (D := D) hx hb hK1 hP hD hS 1 0 rfl rfl (i := 11) (show vp_in 11 173 by unfold vp_in; decide) (show decode cX6_init 89 = .ok (.iastore, 1) by decide +kernel) (fun H locs hP hD hS => ?_)
  refine lv_aload_n hx hb (show decode cX6_init 90 = .ok (.aload_n 0, 1) by decide +kernel) rfl (lv_at hl 0 rfl) ?_
  refine va_get (D := D) (ci := 6) (v := .ref sa) (C := RX6) (T := TX6) (N := 11) hx hb hts (m_lay 6 (by decide)) hown hK hP 0 rfl rfl 0 (by decide) (hts _ jf_6_s) (fun _ h9 => h9) rfl (show decode cX6_init 91 = .ok (.getfield 7, 3) by decide +kernel) ?_
  refine lv_bipush (v := 12) hx hb (show decode cX6_init 94 = .ok (.bipush 12, 2) by decide +kernel) (by decide) ?_
  refine lv_bipush (v := 10) hx hb (show decode cX6_init 96 = .ok (.bipush 10, 2) by decide +kernel) (by decide) ?_
  refine va_iast (D := D) hx hb hK1 hP hD hS 1 0 rfl rfl (i := 12) (show vp_in 12 173 by unfold vp_in; decide) (show decode cX6_init 98 = .ok (.iastore, 1) by decide +kernel) (fun H locs hP hD hS => ?_)
  refine lv_iconst (v := 0) hx hb (show decode cX6_init 99 = .ok (.iconst 0, 1) by decide +kernel) (by decide) ?_
  refine lv_istore_n (lv' := [(1, .int 0), (0, .ref b)]) hx hb (show decode cX6_init 100 = .ok (.istore_n 1, 1) by decide +kernel) rfl hl (by decide) rfl (fun ls hl => ?_)
  refine j_lpM (fs := [.ref sa, .ref pa, .ref sl, .ref ik, .int 0, .int 0, .ref te, .int 0, .int 0, .int 0, .ref li]) (T := [e_Z ca pa 1 1038, e_Z ca sl 1 346, e_Z ca ik 2 2, e_Z ca te 1 60, e_Z ca li 1 93]) (R := j_rm 6 1712 2) CF hK1 hA ⟨by decide, by decide⟩ rfl ⟨by decide, by decide⟩ (fun H locs ls hP hD hS => ?_) 10 0 H locs ls rfl hP hD hS hl
  subst hQ
  exact j_end (u := (sa, pa, sl, ik, te, li)) hx hb hr hlocks trivial hP hD (va_K.app hK1 (t2 := j_tl ca [2]) hK3) hS (show decode cX6_init 129 = _ by decide +kernel)
