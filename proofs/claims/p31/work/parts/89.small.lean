/-! THE CONSTRUCTORS of the small classes. -/
def j_QA {S : Type} (D : va_G) (ca : Nat → ClassId) (b : Nat) (post : S → Prop) (WY : Nat → S → va_W) (ts : List Nat) (A : Nat → Prop) : Array Value → State → Outcome → State → Prop :=
  va_Qv post (fun u t => va_P D vwCl (WY b u) t.heap ∧ va_D A (WY b u) ∧ va_K D vwCl (j_tl ca ts) t) A
/-- what a constructor's body begins with -/
def j_at (D : va_G) (ca : Nat → ClassId) (Y ci b : Nat) (A : Nat → Prop) (p : Program) (s : State) (m : MethodId) (args : Array Value) (meth : Method) (c : Code) (ls : Array Slot) : Prop :=
  CallFix p m c (m_code Y) (m_ml Y) s args lw_g (m_cn (m_nth m_ownL Y)) ∧ j_env D ca s ∧ meth.sig.returnType = none ∧ meth.name = "<init>" ∧ meth.locks = false ∧ (∀ q, s.heap.size ≤ q → A q) ∧ va_P D vwCl [j_x b ci] s.heap ∧ va_D A [j_x b ci] ∧ lv_has ls (m_ml Y) [(0, .ref b)]
theorem j_start {S : Type} {l : Launch} {D : va_G} {ca : Nat → ClassId} {Y ci k mc ms fr : Nat} {post : S → Prop} {WY : Nat → S → va_W} {ts : List Nat} (hY : Y ∈ m_Xs) (hh : m_hh Y = []) (hrt : m_rt Y = none) (hnm : (m_nm Y).name = "<init>") (hlink : Cond.methodLink (m_cn (m_nth m_ownL Y)) k Lib.objectInit ∈ lw_g)
    (hd0 : decode (m_code Y) 0 = .ok (.aload_n 0, 1)) (hd1 : decode (m_code Y) 1 = .ok (.invokespecial k, 3)) (hml1 : 1 ≤ m_ml Y) (hfr : 1 ≤ fr)
    (body : ∀ (b : Nat) (p : Program) (e : Env) (s : State) (m : MethodId) (args : Array Value) (below : List Frame) (meth : Method) (c : Code) (A : Nat → Prop) (ls : Array Slot), j_at D ca Y ci b A p s m args meth c ls →
      W p l e (j_rm mc ms fr) s m args below meth c s.heap [] 0 0 (MQ below (j_QA D ca b post WY ts A) args s mc ms A) (F0 m 4 ls [])) : j_Met l D ca Y ci post WY ts mc ms fr := by
  intro b sz
  have hw : m_wY Y = Cond.code (m_nm Y) (m_code Y) (m_ml Y) none :: lw_g := by
    show m_cwr (m_row Y) :: lw_g = _
    rw [m_cwr_0 hh, hrt]
  refine Met.ofW (cc := m_code Y) (maxL := m_ml Y) (ret := none) (ws' := lw_g) (m_row_ok hY).1 hw ?_
  intro p e s m args below meth c s₁ B hml hv
  obtain ⟨rfl, hsz, hP, hE, hD0⟩ := hv
  have hx := B.exec
  have hb := B.bytes
  have hts9 := atoms_spec (ws := m_wY Y) B.pre
  have hts : ∀ w ∈ lw_g, w.before ([.ref b] : List Value).toArray s = true := fun w hw => hts9 w (List.mem_cons_of_mem _ hw)
  have hown : s.vm.findClass (m_cn (m_nth m_ownL Y)) = some m.cls := by
    rw [← (m_row_ok hY).2.1]
    exact findClass_of_methodNamed B.named
  have hin : meth.name = "<init>" := (name_of_methodNamed B.named B.method).1.trans hnm
  subst hsz
  have hD := hD0.self (sz := s.heap.size)
  show W p l e (j_rm mc ms fr) s m ([.ref b] : List Value).toArray below meth c s.heap [] 0 0 (MQ below (j_QA D ca b post WY ts (va_A [j_x b ci] s.heap.size)) _ s mc ms (va_A [j_x b ci] s.heap.size)) _
  generalize hAe : va_A [j_x b ci] s.heap.size = A at hD ⊢
  have hA : ∀ q : Nat, s.heap.size ≤ q → A q := fun q h => by rw [← hAe]; exact Or.inr h
  have hl := lv_entry ([.ref b]) (n := m_ml Y) hml1
  rw [lg_entry_eq]
  generalize (lg_sl ([.ref b]) ++ List.replicate (m_ml Y - (lg_sl ([.ref b])).length) Slot.unset).toArray = ls at hl ⊢
  have hl : lv_has ls (m_ml Y) [(0, .ref b)] := hl
  refine lv_aload_n hx hb hd0 rfl (lv_at hl 0 rfl) ?_
  refine W.objInit hx hb hown (hts _ hlink) (hts _ jo_in) (hts _ jo_co) rfl (by rw [hml]; exact hl.1) rfl hd1 hfr (show 2 * 0 + 0 + 12 ≤ 40 * fr by omega) ?_
  refine W.eq (g2 := F0 m 4 ls []) rfl ?_
  exact body b p e s m _ below meth c A ls ⟨⟨hx, hb, hml, hown, hts⟩, hE, B.returns, hin, B.notSynchronized, hA, hP, hD, hl⟩
theorem j_end {S : Type} {D : va_G} {ca : Nat → ClassId} {b : Nat} {post : S → Prop} {WY : Nat → S → va_W} {ts : List Nat} {A : Nat → Prop} {p : Program} {l : Launch} {e : Env} {R : Room} {s : State} {m : MethodId} {args : Array Value} {below : List Frame} {meth : Method} {c : Code} {H : Heap} {locs : List Loc} {cells slots pc : Nat} {ls : Array Slot} {cc : ByteArray} (hx : p.tables.exec = Jvm.exec) (hb : c.code = cc) (hr : meth.sig.returnType = none) (hlocks : meth.locks = false) (u : S) (hp : post u)
    (hP : va_P D vwCl (WY b u) H) (hD : va_D A (WY b u)) (hK : va_K D vwCl (j_tl ca ts) s) (hS : va_S A s.heap H locs) (hd : decode cc pc = .ok (.return_, 1)) : W p l e R s m args below meth c H locs cells slots (MQ below (j_QA D ca b post WY ts A) args s cells slots A) (F0 m pc ls []) :=
  W.vret hx hb hr (fun t ht hW => ⟨⟨u, rfl, hp, by rw [ht]; exact hP, hD, va_K.moved hW.alike hK⟩, hS.F ht⟩) hS.2.2 hd
theorem j_none (ca : Nat → ClassId) : j_tl ca [] = [] := rfl
set_option maxRecDepth 20000 in
theorem j_gold (l : Launch) (D : va_G) (ca : Nat → ClassId) : j_Met l D ca 48 4 (fun _ : Unit => True) (fun b _ => [(b, .inr (4, [.int 0, .int 0, .int 0]))]) [] 0 0 1 := by
  refine j_start (k := 1) (by decide +kernel) rfl rfl rfl jo_4 (show decode cX4_init 0 = _ by decide +kernel) (show decode cX4_init 1 = _ by decide +kernel) (by decide +kernel) (by decide) ?_
  intro b p e s m args below meth c A ls ⟨⟨hx, hb, hml, hown, hts⟩, hE, hr, hin, hlocks, hA, hP, hD, hl⟩
  exact j_end hx hb hr hlocks () trivial hP hD hE.1 va_S.rf (show decode cX4_init 4 = _ by decide +kernel)
set_option maxRecDepth 20000 in
theorem j_digger (l : Launch) (D : va_G) (ca : Nat → ClassId) : j_Met l D ca 42 3 (fun _ : Unit => True) (fun b _ => [(b, .inr (3, [.int 0, .int 0, .int (-1), .int 0, .int 0, .int 0, .int 0, .int 0]))]) [] 0 0 1 := by
  refine j_start (k := 3) (by decide +kernel) rfl rfl rfl jo_3 (show decode cX3_init 0 = _ by decide +kernel) (show decode cX3_init 1 = _ by decide +kernel) (by decide +kernel) (by decide) ?_
  intro b p e s m args below meth c A ls ⟨⟨hx, hb, hml, hown, hts⟩, hE, hr, hin, hlocks, hA, hP, hD, hl⟩
  refine lv_aload_n hx hb (show decode cX3_init 4 = .ok (.aload_n 0, 1) by decide +kernel) rfl (lv_at hl 0 rfl) ?_
  refine lv_iconst (v := -1) hx hb (show decode cX3_init 5 = .ok (.iconst (-1), 1) by decide +kernel) (by decide) ?_
  refine va_put (D := D) (ci := 3) (v := .int (-1)) (ty := .int) (C := RX3) (T := TX3) (N := 8) hx hb hts (m_lay 3 (by decide)) tyX3 tyX3_ok nmX3 hown hE.1 hP hD va_S.rf 0 rfl rfl 2 (by decide) (hts _ jf_3_claim) (fun _ h9 => h9) rfl (by decide +kernel) rfl rfl (Nat.le_of_ble_eq_true rfl) (show decode cX3_init 6 = .ok (.putfield 9, 3) by decide +kernel) (fun H locs hP hD hS => ?_)
  exact j_end hx hb hr hlocks () trivial hP hD hE.1 hS (show decode cX3_init 9 = _ by decide +kernel)
set_option maxRecDepth 20000 in
theorem j_claim (l : Launch) (D : va_G) (ca : Nat → ClassId) : j_Met l D ca 29 1 (fun _ : Unit => True) (fun b _ => [(b, .inr (1, [.int 800, .int (-1), .int 0, .int 0, .int 0, .int 0]))]) [] 0 0 1 := by
  refine j_start (k := 3) (by decide +kernel) rfl rfl rfl jo_1 (show decode cX1_init 0 = _ by decide +kernel) (show decode cX1_init 1 = _ by decide +kernel) (by decide +kernel) (by decide) ?_
  intro b p e s m args below meth c A ls ⟨⟨hx, hb, hml, hown, hts⟩, hE, hr, hin, hlocks, hA, hP, hD, hl⟩
  refine lv_aload_n hx hb (show decode cX1_init 4 = .ok (.aload_n 0, 1) by decide +kernel) rfl (lv_at hl 0 rfl) ?_
  refine lv_sipush (v := 800) hx hb (show decode cX1_init 5 = .ok (.sipush 800, 3) by decide +kernel) (by decide) ?_
  refine va_put (D := D) (ci := 1) (v := .int 800) (ty := .int) (C := RX1) (T := TX1) (N := 6) hx hb hts (m_lay 1 (by decide)) tyX1 tyX1_ok nmX1 hown hE.1 hP hD va_S.rf 0 rfl rfl 0 (by decide) (hts _ jf_1_fineness) (fun _ h9 => h9) rfl (by decide +kernel) rfl rfl (Nat.le_of_ble_eq_true rfl) (show decode cX1_init 8 = .ok (.putfield 9, 3) by decide +kernel) (fun H locs hP hD hS => ?_)
  refine lv_aload_n hx hb (show decode cX1_init 11 = .ok (.aload_n 0, 1) by decide +kernel) rfl (lv_at hl 0 rfl) ?_
  refine lv_iconst (v := -1) hx hb (show decode cX1_init 12 = .ok (.iconst (-1), 1) by decide +kernel) (by decide) ?_
  refine va_put (D := D) (ci := 1) (v := .int (-1)) (ty := .int) (C := RX1) (T := TX1) (N := 6) hx hb hts (m_lay 1 (by decide)) tyX1 tyX1_ok nmX1 hown hE.1 hP hD hS 0 rfl rfl 1 (by decide) (hts _ jf_1_digger) (fun _ h9 => h9) rfl (by decide +kernel) rfl rfl (Nat.le_of_ble_eq_true rfl) (show decode cX1_init 13 = .ok (.putfield 15, 3) by decide +kernel) (fun H locs hP hD hS => ?_)
  exact j_end hx hb hr hlocks () trivial hP hD hE.1 hS (show decode cX1_init 16 = _ by decide +kernel)
set_option maxRecDepth 20000 in
theorem j_text (l : Launch) (D : va_G) (ca : Nat → ClassId) : j_Met l D ca 34 2 (fun _ : Nat => True) (fun b q => [(b, .inr (2, [.ref q, .int 0, .int 0, .int 0, .int 0, .int 0])), (q, .inl (ca 3, 60, .inl (fun _ => 0)))]) [3] 1 60 1 := by
  refine j_start (k := 5) (by decide +kernel) rfl rfl rfl jo_2 (show decode cX2_init 0 = _ by decide +kernel) (show decode cX2_init 1 = _ by decide +kernel) (by decide +kernel) (by decide) ?_
  intro b p e s m args below meth c A ls ⟨⟨hx, hb, hml, hown, hts⟩, hE, hr, hin, hlocks, hA, hP, hD, hl⟩
  refine lv_aload_n hx hb (show decode cX2_init 4 = .ok (.aload_n 0, 1) by decide +kernel) rfl (lv_at hl 0 rfl) ?_
  refine lv_bipush (v := 60) hx hb (show decode cX2_init 5 = .ok (.bipush 60, 2) by decide +kernel) (by decide) ?_
  refine va_newa (D := D) (atype := .char) (ty := .char) (N' := 60) (a0 := (60, .inl (fun _ => 0))) hx hb (hts _ ja_char) rfl hE.1 hP hD va_S.rf hA (fun _ => rfl) (by decide) (by decide) (by decide) (by decide) (by decide) (show decode cX2_init 7 = .ok (.newarray .char, 2) by decide +kernel) (fun q cA H hK hP hD hS => ?_)
  have eA : cA = ca 3 := j_uni (t := 3) (tys := []) hK hE.2.1
  subst eA
  refine va_putF (D := D) (ci := 2) (v := .ref q) (ty := .array .char) (C := RX2) (T := TX2) (N := 6) hx hb hts (m_lay 2 (by decide)) tyX2 tyX2_ok nmX2 hown hE.1 hP hD hS 0 rfl rfl 0 (by decide) (hts _ jf_2_signs) (fun _ h9 => h9) rfl hin rfl (by decide +kernel) rfl rfl (Nat.le_of_ble_eq_true rfl) (show decode cX2_init 9 = .ok (.putfield 11, 3) by decide +kernel) (fun H locs hP hD hS => ?_)
  exact j_end hx hb hr hlocks q trivial hP hD hK hS (show decode cX2_init 12 = _ by decide +kernel)
