/-! THE START: the law makes its three objects, and runs. -/
set_option maxHeartbeats 4000000 in
set_option maxRecDepth 20000 in
theorem whole_start {p : Program} {e : Env} {s : State} {m : MethodId} {below : List Frame} {meth : Method} {c : Code} (l : Launch) (hflags : l.flags = flags0) {b L : Nat} {xs : Nat → Int32} (hL : L ≤ 1536) (C0 : lw_At p s m meth c b L xs) (ht : c.exceptionTable.toList = []) : W p l e room_1 s m #[Value.ref b] below meth c s.heap [] 0 0 (lw_Z below #[Value.ref b] s) (entryFrame m ([Value.ref b] : List Value).toArray 9) := by
  obtain ⟨D, hK0⟩ := j_cls C0
  have hE := j_envS C0 hK0
  obtain ⟨t24, h24⟩ := j_tabL C0
  obtain ⟨t25, h25⟩ := j_tabM C0
  have hts := j_htsg C0
  have C1 := C0
  obtain ⟨hx, hb, hr, hml, hown, -, hX, hbl, hlocks, -⟩ := C1
  have CF : CallFix p m c code 9 s #[Value.ref b] lw_g "FineScripLaw" := ⟨hx, hb, hml, hown, hts⟩
  generalize hca : j_caS s = ca at hE
  have hA : ∀ q : Nat, s.heap.size ≤ q → (fun q => s.heap.size ≤ q) q := fun q h => h
  have hP : va_P D vwCl [] s.heap := fun k q hk => by cases hk
  have hD : va_D (fun q => s.heap.size ≤ q) [] := ⟨fun i j p q hp => absurd hp (fun h => nomatch h), fun k q hk => absurd hk (fun h => nomatch h)⟩
  have hS : va_S (fun q => s.heap.size ≤ q) s.heap s.heap [] := va_S.rf
  have hK := hE.1
  generalize hQ : lw_Z below #[Value.ref b] s = Q
  have hl := lv_entry ([.ref b]) (n := 9) (show (1 : Nat) ≤ 9 by decide)
  rw [lg_entry_eq]
  generalize (lg_sl ([.ref b]) ++ List.replicate (9 - (lg_sl ([.ref b])).length) Slot.unset).toArray = ls at hl ⊢
  have hl : lv_has ls 9 [(0, .ref b)] := hl
  refine va_new (D := D) (ci := 5) (fs := j_df 5) (C := RX5) (T := TX5) (N := 6) (own := "FineScripLaw") hx hb hts (m_lay 5 (by decide)) tyX5 tyX5_ok hown (hts _ jl_L5) (hts _ js_5) (hts _ ji_5) hK hP hD hS hA rfl (fun j hj => by rcases (show j = 0 ∨ j = 1 ∨ j = 2 ∨ j = 3 ∨ j = 4 ∨ j = 5 by omega) with rfl | rfl | rfl | rfl | rfl | rfl <;> rfl) (by show _ ≤ 606356; omega) (by show _ ≤ 7277035; omega) (show decode code 0 = .ok (.new 8, 3) by decide +kernel) (fun b5 H hP hD hS => ?_)
  refine lv_dup hx hb (show decode code 3 = .ok (.dup, 1) by decide +kernel) rfl ?_
  refine j_callI (W0 := []) CF hE (j_scrip l D ca) (by decide +kernel) rfl rfl rfl rfl (by decide) jm_5 ji_5 jc_L5 (show decode code 4 = .ok (.invokespecial 84, 3) by decide +kernel) ⟨by decide, show 8 + (m_ml 62 + 11) + 40 * 3 ≤ 440 by decide +kernel⟩ ⟨by show _ ≤ 606356; omega, by show _ ≤ 7277035; omega⟩ hl.1 (show 1 ≤ 8 by decide) hP hD hS hA (fun u H locs hu hP hD hK1 hS => ?_)
  refine lv_astore_n (lv' := [(1, .ref b5), (0, .ref b)]) hx hb (show decode code 7 = .ok (.astore_n 1, 1) by decide +kernel) rfl hl (by decide) rfl (fun ls hl => ?_)
  refine va_new (D := D) (ci := 6) (fs := j_df 6) (C := RX6) (T := TX6) (N := 11) (own := "FineScripLaw") hx hb hts (m_lay 6 (by decide)) tyX6 tyX6_ok hown (hts _ jl_L6) (hts _ js_6) (hts _ ji_6) hK hP hD hS hA rfl (fun j hj => by rcases (show j = 0 ∨ j = 1 ∨ j = 2 ∨ j = 3 ∨ j = 4 ∨ j = 5 ∨ j = 6 ∨ j = 7 ∨ j = 8 ∨ j = 9 ∨ j = 10 by omega) with rfl | rfl | rfl | rfl | rfl | rfl | rfl | rfl | rfl | rfl | rfl <;> rfl) (by show _ ≤ 606356; omega) (by show _ ≤ 7277035; omega) (show decode code 8 = .ok (.new 85, 3) by decide +kernel) (fun b6 H hP hD hS => ?_)
  refine lv_dup hx hb (show decode code 11 = .ok (.dup, 1) by decide +kernel) rfl ?_
  refine j_callI (W0 := [] ++ j_W5 ca b5 u) CF hE (j_model l D ca) (by decide +kernel) rfl rfl rfl rfl (by decide) jm_6 ji_6 jc_L6 (show decode code 12 = .ok (.invokespecial 87, 3) by decide +kernel) ⟨by decide, show 8 + (m_ml 104 + 11) + 40 * 2 ≤ 440 by decide +kernel⟩ ⟨by show _ ≤ 606356; omega, by show _ ≤ 7277035; omega⟩ hl.1 (show 1 ≤ 8 by decide) hP hD hS hA (fun v H locs _ hP hD hK2 hS => ?_)
  refine lv_astore_n (lv' := [(2, .ref b6), (1, .ref b5), (0, .ref b)]) hx hb (show decode code 15 = .ok (.astore_n 2, 1) by decide +kernel) rfl hl (by decide) rfl (fun ls hl => ?_)
  refine lv_iconst (v := 1) hx hb (show decode code 16 = .ok (.iconst 1, 1) by decide +kernel) (by decide) ?_
  refine va_newa (D := D) (atype := .long) (ty := .long) (N' := 1) (a0 := (1, .inr (.inl (fun _ => 0)))) hx hb (hts _ ja_long) rfl hK hP hD hS hA (fun _ => rfl) (by decide) (by decide) (by decide) (by show _ ≤ 606356; omega) (by show _ ≤ 7277035; omega) (show decode code 17 = .ok (.newarray .long, 2) by decide +kernel) (fun out cA H hK3 hP hD hS => ?_)
  have eA : cA = ca 4 := j_uni (t := 4) hK3 hE.2.1
  subst eA
  refine lv_astore_n (lv' := [(3, .ref out), (2, .ref b6), (1, .ref b5), (0, .ref b)]) hx hb (show decode code 19 = .ok (.astore_n 3, 1) by decide +kernel) rfl hl (by decide) rfl (fun ls hl => ?_)
  refine lv_iconst (v := 0) hx hb (show decode code 20 = .ok (.iconst 0, 1) by decide +kernel) (by decide) ?_
  refine lv_istore (lv' := [(4, .int 0), (3, .ref out), (2, .ref b6), (1, .ref b5), (0, .ref b)]) hx hb (show decode code 21 = .ok (.istore 4, 2) by decide +kernel) hl (by decide) rfl (fun ls hl => ?_)
  have hP : va_P D vwCl (j_wd ca b5 u b6 v out) H := hP
  have hD : va_D (fun q => s.heap.size ≤ q) (j_wd ca b5 u b6 v out) := hD
  have hK9 : va_K D vwCl (j_tl ca [6, 7, 8, 1, 3, 5, 2, 4]) s := va_K.app (t1 := j_tl ca [6, 7, 8, 1, 3, 5, 2]) hK1 (t2 := j_tl ca [4]) hK3
  subst hca
  have hKst := j_Kst C0 hK9 (b5 := b5) (u := u) (b6 := b6) (v := v) (out := out) h24 h25
  have hap := j_ap D (j_caS s) s.heap.size xs L b5 hu b6 v out t24 t25 b hD
  have hPm := j_P (h0 := s.heap.size) (xs := xs) (L := L) (t24 := t24) (t25 := t25) (bS := b) hu hP
  generalize hg : ((j_ad b5 u b6 v out t24 t25 b, D, j_caS s, s.heap.size, xs, L) : m_G) = g at hKst hap hPm
  have hst : l.stackTraces = false := by
    unfold Launch.stackTraces
    rw [hflags]
    decide
  have hC : m_C g 203 p l room_1 s m #[Value.ref b] meth c := ⟨hx, hb, hml, hown, hts, ⟨by decide +kernel, by decide +kernel⟩, ht, hst, hKst, hap, hlocks⟩
  obtain ⟨q, M', hrun, hdc⟩ := x_run (M := j_M xs L) (S := L) hL (j_T0 xs L) rfl rfl none none none none
  have hM : m_Mst g (j_M xs L) := by
    rw [← hg]
    exact ⟨fun j _ => rfl, fun j _ => rfl, fun i _ => rfl, rfl, Nat.lt_of_le_of_lt hL (by decide)⟩
  have hLR : m_LR g ls [some (.ref (m_lc 26 0 0)), some (.ref (m_lc 1 0 0)), some (.ref (m_lc 15 0 0)), some (.ref (m_lc 22 0 0)), some (.int 0), none, none, none, none] := by
    refine ⟨hl.1, hl.2.1, fun j w hj => ?_⟩
    match j, hj with
    | 0, hj => cases hj; rw [j_tv, ← hg]; exact lv_at hl 4 rfl
    | 1, hj => cases hj; rw [j_tv, ← hg]; exact lv_at hl 3 rfl
    | 2, hj => cases hj; rw [j_tv, ← hg]; exact lv_at hl 2 rfl
    | 3, hj => cases hj; rw [j_tv, ← hg]; exact lv_at hl 1 rfl
    | 4, hj => cases hj; exact lv_at hl 0 rfl
    | 5, hj => cases hj
    | 6, hj => cases hj
    | 7, hj => cases hj
    | 8, hj => cases hj
    | j + 9, hj => cases hj
  have hSg : va_S (m_A g) s.heap H locs := by
    rw [← hg]
    exact hS
  refine m_main hst hap q 203 23 _ [] (j_M xs L) (.inl (some (.int 1))) M' hrun (by decide) (by decide +kernel) p e room_1 s m #[Value.ref b] below meth c _ _ Q hC ⟨?_, ?_⟩ ?_ ls H locs hLR hPm hM hSg
  · show _ ≤ 606356
    omega
  · show _ ≤ 7277035
    omega
  · intro pc i pl hpl hd hi ls H locs hl hP hM hS
    have hi9 : i = .ireturn := by
      rcases hi with ⟨h, -⟩ | ⟨-, -, x, h⟩ | ⟨-, -, x, h⟩ | ⟨-, -, h⟩
      · exact h
      · cases h
      · cases h
      · cases h
    subst hi9
    refine W.widen (k := 606356) (n := 7277035) (by omega) (by omega) ?_
    refine va_forget (fun q hq => by have := hS.2.2 q hq; rw [← hg] at this; exact this) ?_
    subst hQ
    exact lw_ret (d0 := s.drawn) (Drawn.sameBut.refl s.drawn lw_cs) hx hb hr hlocks hd
