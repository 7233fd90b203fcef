/-! THE START: the law makes its object and its four arrays, and runs. -/
set_option maxHeartbeats 4000000 in
set_option maxRecDepth 20000 in
theorem whole_start {p : Program} {e : Env} {s : State} {m : MethodId} {below : List Frame} {meth : Method} {c : Code} (l : Launch) (hflags : l.flags = flags0) {b L : Nat} {xs : Nat → Int32} (hL : L ≤ 260) (C0 : lw_At p s m meth c b L xs) (ht : c.exceptionTable.toList = []) : W p l e room_1 s m #[Value.ref b] below meth c s.heap [] 0 0 (lw_Z below #[Value.ref b] s) (entryFrame m ([Value.ref b] : List Value).toArray 9) := by
  obtain ⟨D, hK0⟩ := j_cls C0
  have hE := j_envS C0 hK0
  obtain ⟨t24, h24⟩ := j_tabL C0
  obtain ⟨t25, h25⟩ := j_tabM C0
  have hts := j_htsg C0
  have C1 := C0
  obtain ⟨hx, hb, hr, hml, hown, -, hX, hbl, hlocks, -⟩ := C1
  have CF : CallFix p m c code 9 s #[Value.ref b] lw_g "FineScripLaw" := ⟨hx, hb, hml, hown, hts⟩
  generalize hca : j_caS s = ca at hE
  have hA : ∀ q : Nat, s.heap.size ≤ q → (fun q => s.heap.size ≤ q) q := fun q h => h
  have hP : va_P D vwCl [] s.heap := fun k q hk => by cases hk
  have hD : va_D (fun q => s.heap.size ≤ q) [] := ⟨fun i j p q hp => absurd hp (fun h => nomatch h), fun k q hk => absurd hk (fun h => nomatch h)⟩
  have hS : va_S (fun q => s.heap.size ≤ q) s.heap s.heap [] := va_S.rf
  have hK := hE.1
  generalize hQ : lw_Z below #[Value.ref b] s = Q
  have hl := lv_entry ([.ref b]) (n := 9) (show (1 : Nat) ≤ 9 by decide)
  rw [lg_entry_eq]
  generalize (lg_sl ([.ref b]) ++ List.replicate (9 - (lg_sl ([.ref b])).length) Slot.unset).toArray = ls at hl ⊢
  have hl : lv_has ls 9 [(0, .ref b)] := hl
  refine va_new (D := D) (ci := 5) (fs := j_df 5) (C := RX5) (T := TX5) (N := 6) (own := "FineScripLaw") hx hb hts (m_lay 5 (by decide)) tyX5 tyX5_ok hown (hts _ jl_L5) (hts _ js_5) (hts _ ji_5) hK hP hD hS hA rfl (fun j hj => by rcases (show j = 0 ∨ j = 1 ∨ j = 2 ∨ j = 3 ∨ j = 4 ∨ j = 5 by omega) with rfl | rfl | rfl | rfl | rfl | rfl <;> rfl) (by show _ ≤ 600172; omega) (by show _ ≤ 7300668; omega) (show decode code 0 = .ok (.new 8, 3) by decide +kernel) (fun b5 H hP hD hS => ?_)
  refine lv_dup hx hb (show decode code 3 = .ok (.dup, 1) by decide +kernel) rfl ?_
  refine j_callI (W0 := []) CF hE (j_scrip l D ca) (by decide +kernel) rfl rfl rfl rfl (by decide) jm_5 ji_5 jc_L5 (show decode code 4 = .ok (.invokespecial 164, 3) by decide +kernel) ⟨by decide, show 8 + (m_ml 53 + 11) + 40 * 3 ≤ room_1.locals by decide +kernel⟩ ⟨by show _ ≤ 600172; omega, by show _ ≤ 7300668; omega⟩ hl.1 (show 1 ≤ 8 by decide) hP hD hS hA (fun u H locs hu hP hD hK1 hS => ?_)
  refine lv_astore_n (lv' := [(1, .ref b5), (0, .ref b)]) hx hb (show decode code 7 = .ok (.astore_n 1, 1) by decide +kernel) rfl hl (by decide) rfl (fun ls hl => ?_)
  refine lv_bipush (v := 13) hx hb (show decode code 8 = .ok (.bipush 13, 2) by decide +kernel) (by decide) ?_
  refine va_newa (D := D) (atype := .int) (ty := .int) (N' := 13) (a0 := (13, .inl (fun _ => 0))) hx hb (hts _ ja_int) rfl hK hP hD hS hA (fun _ => rfl) (by decide) (by decide) (by decide) (by show _ ≤ 600172; omega) (by show _ ≤ 7300668; omega) (show decode code 10 = .ok (.newarray .int, 2) by decide +kernel) (fun ga cA H hKa hP hD hS => ?_)
  have eA : cA = ca 1 := j_uni (t := 1) hKa hE.2.1
  subst eA
  refine lv_astore_n (lv' := [(2, .ref ga), (1, .ref b5), (0, .ref b)]) hx hb (show decode code 12 = .ok (.astore_n 2, 1) by decide +kernel) rfl hl (by decide) rfl (fun ls hl => ?_)
  refine lv_bipush (v := 64) hx hb (show decode code 13 = .ok (.bipush 64, 2) by decide +kernel) (by decide) ?_
  refine va_newa (D := D) (atype := .int) (ty := .int) (N' := 64) (a0 := (64, .inl (fun _ => 0))) hx hb (hts _ ja_int) rfl hK hP hD hS hA (fun _ => rfl) (by decide) (by decide) (by decide) (by show _ ≤ 600172; omega) (by show _ ≤ 7300668; omega) (show decode code 15 = .ok (.newarray .int, 2) by decide +kernel) (fun da cA H hKa hP hD hS => ?_)
  have eA : cA = ca 1 := j_uni (t := 1) hKa hE.2.1
  subst eA
  refine lv_astore_n (lv' := [(3, .ref da), (2, .ref ga), (1, .ref b5), (0, .ref b)]) hx hb (show decode code 17 = .ok (.astore_n 3, 1) by decide +kernel) rfl hl (by decide) rfl (fun ls hl => ?_)
  refine lv_bipush (v := 60) hx hb (show decode code 18 = .ok (.bipush 60, 2) by decide +kernel) (by decide) ?_
  refine va_newa (D := D) (atype := .int) (ty := .int) (N' := 60) (a0 := (60, .inl (fun _ => 0))) hx hb (hts _ ja_int) rfl hK hP hD hS hA (fun _ => rfl) (by decide) (by decide) (by decide) (by show _ ≤ 600172; omega) (by show _ ≤ 7300668; omega) (show decode code 20 = .ok (.newarray .int, 2) by decide +kernel) (fun la cA H hKa hP hD hS => ?_)
  have eA : cA = ca 1 := j_uni (t := 1) hKa hE.2.1
  subst eA
  refine lv_astore (lv' := [(4, .ref la), (3, .ref da), (2, .ref ga), (1, .ref b5), (0, .ref b)]) hx hb (show decode code 22 = .ok (.astore 4, 2) by decide +kernel) hl (by decide) rfl (fun ls hl => ?_)
  refine lv_bipush (v := 36) hx hb (show decode code 24 = .ok (.bipush 36, 2) by decide +kernel) (by decide) ?_
  refine va_newa (D := D) (atype := .int) (ty := .int) (N' := 36) (a0 := (36, .inl (fun _ => 0))) hx hb (hts _ ja_int) rfl hK hP hD hS hA (fun _ => rfl) (by decide) (by decide) (by decide) (by show _ ≤ 600172; omega) (by show _ ≤ 7300668; omega) (show decode code 26 = .ok (.newarray .int, 2) by decide +kernel) (fun ba cA H hKa hP hD hS => ?_)
  have eA : cA = ca 1 := j_uni (t := 1) hKa hE.2.1
  subst eA
  refine lv_astore (lv' := [(5, .ref ba), (4, .ref la), (3, .ref da), (2, .ref ga), (1, .ref b5), (0, .ref b)]) hx hb (show decode code 28 = .ok (.astore 5, 2) by decide +kernel) hl (by decide) rfl (fun ls hl => ?_)
  obtain ⟨v, hv⟩ : ∃ v : j_S6, v = (ga, da, la, ba) := ⟨_, rfl⟩
  have eW : (((([] ++ j_W5 ca b5 u) ++ [e_Z ca ga 1 13]) ++ [e_Z ca da 1 64]) ++ [e_Z ca la 1 60]) ++ [e_Z ca ba 1 36] = j_wd ca b5 u v := by
    subst hv
    unfold j_wd j_W6
    rw [List.nil_append, List.append_assoc, List.append_assoc, List.append_assoc]
    rfl
  have hP : va_P D vwCl (j_wd ca b5 u v) H := by
    rw [← eW]
    exact hP
  have hD : va_D (fun q => s.heap.size ≤ q) (j_wd ca b5 u v) := by
    rw [← eW]
    exact hD
  subst hca
  have hKst := j_Kst C0 hK1 (b5 := b5) (u := u) (v := v) h24 h25
  have hap := j_ap D (j_caS s) s.heap.size xs L b5 hu v t24 t25 b hD
  have hPm := j_P (h0 := s.heap.size) (xs := xs) (L := L) (t24 := t24) (t25 := t25) (bS := b) hu hP
  generalize hg : ((j_ad b5 u v t24 t25 b, D, j_caS s, s.heap.size, xs, L) : m_G) = g at hKst hap hPm
  have hst : l.stackTraces = false := by
    unfold Launch.stackTraces
    rw [hflags]
    decide
  have hC : m_C g 116 p l room_1 s m #[Value.ref b] meth c := ⟨hx, hb, hml, hown, hts, ⟨by decide +kernel, by decide +kernel⟩, ht, hst, hKst, hap, hlocks⟩
  obtain ⟨q, M', hrun, hdc⟩ := j_run (xs := xs) (L := L) (by omega)
  have hM : m_Mst g (j_M xs L) := by
    rw [← hg]
    exact ⟨fun j _ => rfl, fun j _ => rfl, fun i _ => rfl, rfl, Nat.lt_of_le_of_lt hL (by decide)⟩
  have hLR : m_LR g ls [some (.ref (m_lc 26 0 0)), some (.ref (m_lc 1 0 0)), some (.ref (m_lc 16 0 0)), some (.ref (m_lc 17 0 0)), some (.ref (m_lc 18 0 0)), some (.ref (m_lc 19 0 0)), none, none, none] := by
    refine ⟨hl.1, hl.2.1, fun j w hj => ?_⟩
    match j, hj with
    | 0, hj => cases hj; rw [j_tv, ← hg]; exact lv_at hl 5 rfl
    | 1, hj => cases hj; rw [j_tv, ← hg]; exact lv_at hl 4 rfl
    | 2, hj => cases hj; rw [j_tv, ← hg]; rw [hv]; exact lv_at hl 3 rfl
    | 3, hj => cases hj; rw [j_tv, ← hg]; rw [hv]; exact lv_at hl 2 rfl
    | 4, hj => cases hj; rw [j_tv, ← hg]; rw [hv]; exact lv_at hl 1 rfl
    | 5, hj => cases hj; rw [j_tv, ← hg]; rw [hv]; exact lv_at hl 0 rfl
    | 6, hj => cases hj
    | 7, hj => cases hj
    | 8, hj => cases hj
    | j + 9, hj => cases hj
  have hSg : va_S (m_A g) s.heap H locs := by
    rw [← hg]
    exact hS
  refine m_main hst hap q 116 30 _ [] (j_M xs L) (.inl (some (.int 1))) M' hrun (by decide) (by decide +kernel) p e room_1 s m #[Value.ref b] below meth c _ _ Q hC ⟨?_, ?_⟩ ?_ ls H locs hLR hPm hM hSg
  · show _ ≤ 600172
    omega
  · show _ ≤ 7300668
    omega
  · intro pc i pl hpl hd hi ls H locs hl hP hM hS
    have hi9 : i = .ireturn := by
      rcases hi with ⟨h, -⟩ | ⟨-, -, x, h⟩ | ⟨-, -, x, h⟩ | ⟨-, -, h⟩
      · exact h
      · cases h
      · cases h
      · cases h
    subst hi9
    refine W.widen (k := 600172) (n := 7300668) (by omega) (by omega) ?_
    refine va_forget (fun q hq => by have := hS.2.2 q hq; rw [← hg] at this; exact this) ?_
    subst hQ
    exact lw_ret hx hb hr hlocks hd
