/-! THE CAMP'S CONSTRUCTOR. -/
/-- a camp's five references and three lists -/
abbrev j_S0 : Type := Nat × Nat × Nat × Nat × Nat × List Nat × List Nat × List Nat
abbrev j_S0.aD (u : j_S0) : Nat := u.1
abbrev j_S0.aC (u : j_S0) : Nat := u.2.1
abbrev j_S0.aB (u : j_S0) : Nat := u.2.2.1
abbrev j_S0.lo (u : j_S0) : Nat := u.2.2.2.1
abbrev j_S0.st (u : j_S0) : Nat := u.2.2.2.2.1
abbrev j_S0.LD (u : j_S0) : List Nat := u.2.2.2.2.2.1
abbrev j_S0.LC (u : j_S0) : List Nat := u.2.2.2.2.2.2.1
abbrev j_S0.LB (u : j_S0) : List Nat := u.2.2.2.2.2.2.2
def j_S0.ok (u : j_S0) : Prop := (j_S0.LD u).length = 8 ∧ (j_S0.LC u).length = 10 ∧ (j_S0.LB u).length = 12
def e_st (ca : Nat → ClassId) (a : Nat) : Nat × va_E := (a, .inl (ca 1, 5, .inl (upd (upd (upd (upd (upd (fun _ => 0) 0 750) 1 40) 2 5) 3 7) 4 10)))
def j_W0 (ca : Nat → ClassId) (b : Nat) (u : j_S0) : va_W :=
  (b, .inr (0, [.ref (j_S0.aD u), .ref (j_S0.aC u), .ref (j_S0.aB u), .ref (j_S0.lo u), .ref (j_S0.st u), .int 0, .int 0, .int 0, .int 0, .int 0])) :: e_A ca (j_S0.aD u) 6 8 (j_S0.LD u) :: e_A ca (j_S0.aC u) 7 10 (j_S0.LC u) :: e_A ca (j_S0.aB u) 8 12 (j_S0.LB u) :: e_G (j_S0.lo u) :: e_st ca (j_S0.st u) :: (((([] : va_W) ++ (j_S0.LD u).map e_D) ++ (j_S0.LC u).map e_C) ++ (j_S0.LB u).map e_G)
set_option maxHeartbeats 4000000 in
set_option maxRecDepth 20000 in
theorem j_camp (l : Launch) (D : va_G) (ca : Nat → ClassId) : j_Met l D ca 0 0 j_S0.ok (j_W0 ca) [6, 7, 8, 1] 35 198 2 := by
  refine j_start (k := 3) (by decide +kernel) rfl rfl rfl jo_0 (show decode cX0_init 0 = _ by decide +kernel) (show decode cX0_init 1 = _ by decide +kernel) (by decide +kernel) (by decide) ?_
  intro b p e s m args below meth c A ls ⟨CF, hE, hr, hin, hlocks, hA, hP, hD, hl⟩
  have CF : CallFix p m c cX0_init 2 s args lw_g RX0 := CF
  obtain ⟨hx, hb, hml, hown, hts⟩ := id CF
  have hl : lv_has ls 2 [(0, .ref b)] := hl
  generalize hQ : MQ below _ args s _ _ A = Q
  have hS : va_S A s.heap s.heap [] := va_S.rf
  have hK := hE.1
  refine lv_aload_n hx hb (show decode cX0_init 4 = .ok (.aload_n 0, 1) by decide +kernel) rfl (lv_at hl 0 rfl) ?_
  refine lv_bipush (v := 8) hx hb (show decode cX0_init 5 = .ok (.bipush 8, 2) by decide +kernel) (by decide) ?_
  refine va_newq (N' := 8) hx hb hown (hts _ jl_03) (hE.2.2.2 "FineScrip$Digger" (by decide)) hK hP hD hS hA (by decide) (by decide) (by decide) (by show _ ≤ 35; omega) (by show _ ≤ 198; omega) (show decode cX0_init 7 = .ok (.anewarray 9, 3) by decide +kernel) (fun aD cA H hK hP hD hS => ?_)
  have eA : cA = ca 6 := j_uni (t := 6) hK hE.2.1
  subst eA
  refine va_putF (D := D) (ci := 0) (v := .ref aD) (ty := .array (.object "FineScrip$Digger")) (C := RX0) (T := TX0) (N := 10) hx hb hts (m_lay 0 (by decide)) tyX0 tyX0_ok nmX0 hown hK hP hD hS 0 rfl rfl 0 (by decide) (hts _ jf_0_diggers) (fun _ h9 => h9) rfl hin rfl (by decide +kernel) rfl rfl (Nat.le_of_ble_eq_true rfl) (show decode cX0_init 10 = .ok (.putfield 11, 3) by decide +kernel) (fun H locs hP hD hS => ?_)
  refine lv_aload_n hx hb (show decode cX0_init 13 = .ok (.aload_n 0, 1) by decide +kernel) rfl (lv_at hl 0 rfl) ?_
  refine lv_bipush (v := 10) hx hb (show decode cX0_init 14 = .ok (.bipush 10, 2) by decide +kernel) (by decide) ?_
  refine va_newq (N' := 10) hx hb hown (hts _ jl_01) (hE.2.2.2 "FineScrip$Claim" (by decide)) hK hP hD hS hA (by decide) (by decide) (by decide) (by show _ ≤ 35; omega) (by show _ ≤ 198; omega) (show decode cX0_init 16 = .ok (.anewarray 17, 3) by decide +kernel) (fun aC cA H hK hP hD hS => ?_)
  have eA : cA = ca 7 := j_uni (t := 7) hK hE.2.1
  subst eA
  refine va_putF (D := D) (ci := 0) (v := .ref aC) (ty := .array (.object "FineScrip$Claim")) (C := RX0) (T := TX0) (N := 10) hx hb hts (m_lay 0 (by decide)) tyX0 tyX0_ok nmX0 hown hK hP hD hS 0 rfl rfl 1 (by decide) (hts _ jf_0_claims) (fun _ h9 => h9) rfl hin rfl (by decide +kernel) rfl rfl (Nat.le_of_ble_eq_true rfl) (show decode cX0_init 19 = .ok (.putfield 19, 3) by decide +kernel) (fun H locs hP hD hS => ?_)
  refine lv_aload_n hx hb (show decode cX0_init 22 = .ok (.aload_n 0, 1) by decide +kernel) rfl (lv_at hl 0 rfl) ?_
  refine lv_bipush (v := 12) hx hb (show decode cX0_init 23 = .ok (.bipush 12, 2) by decide +kernel) (by decide) ?_
  refine va_newq (N' := 12) hx hb hown (hts _ jl_04) (hE.2.2.2 "FineScrip$Gold" (by decide)) hK hP hD hS hA (by decide) (by decide) (by decide) (by show _ ≤ 35; omega) (by show _ ≤ 198; omega) (show decode cX0_init 25 = .ok (.anewarray 23, 3) by decide +kernel) (fun aB cA H hK hP hD hS => ?_)
  have eA : cA = ca 8 := j_uni (t := 8) hK hE.2.1
  subst eA
  refine va_putF (D := D) (ci := 0) (v := .ref aB) (ty := .array (.object "FineScrip$Gold")) (C := RX0) (T := TX0) (N := 10) hx hb hts (m_lay 0 (by decide)) tyX0 tyX0_ok nmX0 hown hK hP hD hS 0 rfl rfl 2 (by decide) (hts _ jf_0_bars) (fun _ h9 => h9) rfl hin rfl (by decide +kernel) rfl rfl (Nat.le_of_ble_eq_true rfl) (show decode cX0_init 28 = .ok (.putfield 25, 3) by decide +kernel) (fun H locs hP hD hS => ?_)
  refine lv_aload_n hx hb (show decode cX0_init 31 = .ok (.aload_n 0, 1) by decide +kernel) rfl (lv_at hl 0 rfl) ?_
  refine va_new (D := D) (ci := 4) (fs := j_df 4) (C := RX4) (T := TX4) (N := 3) hx hb hts (m_lay 4 (by decide)) tyX4 tyX4_ok hown (hts _ jl_04) (hts _ js_4) (hts _ ji_4) hK hP hD hS hA rfl (fun j hj => by rcases (show j = 0 ∨ j = 1 ∨ j = 2 by omega) with rfl | rfl | rfl <;> rfl) (by show _ ≤ 35; omega) (by show _ ≤ 198; omega) (show decode cX0_init 32 = .ok (.new 23, 3) by decide +kernel) (fun lo H hP hD hS => ?_)
  refine lv_dup hx hb (show decode cX0_init 35 = .ok (.dup, 1) by decide +kernel) rfl ?_
  refine j_callN CF hE (j_gold l D ca) (by decide +kernel) rfl rfl rfl rfl (by decide) jm_4 ji_4 (List.mem_of_getElem? (i := 0) rfl) (show decode cX0_init 36 = .ok (.invokespecial 29, 3) by decide +kernel) ⟨by decide, show 8 + (m_ml 48 + 11) + 40 * 1 ≤ 80 by decide +kernel⟩ ⟨by show _ ≤ 35; omega, by show _ ≤ 198; omega⟩ hl.1 (show 2 ≤ 8 by decide) hP hD hS hA (fun _ H locs _ hP hD _ hS => ?_)
  refine va_putF (D := D) (ci := 0) (v := .ref lo) (ty := .object "FineScrip$Gold") (C := RX0) (T := TX0) (N := 10) hx hb hts (m_lay 0 (by decide)) tyX0 tyX0_ok nmX0 hown hK hP hD hS 0 rfl rfl 3 (by decide) (hts _ jf_0_lot) (fun _ h9 => h9) rfl hin rfl (by decide +kernel) rfl rfl (Nat.le_of_ble_eq_true rfl) (show decode cX0_init 39 = .ok (.putfield 30, 3) by decide +kernel) (fun H locs hP hD hS => ?_)
  refine lv_aload_n hx hb (show decode cX0_init 42 = .ok (.aload_n 0, 1) by decide +kernel) rfl (lv_at hl 0 rfl) ?_
  refine lv_iconst (v := 5) hx hb (show decode cX0_init 43 = .ok (.iconst 5, 1) by decide +kernel) (by decide) ?_
  refine va_newa (D := D) (atype := .int) (ty := .int) (N' := 5) (a0 := (5, .inl (fun _ => 0))) hx hb (hts _ ja_int) rfl hK hP hD hS hA (fun _ => rfl) (by decide) (by decide) (by decide) (by show _ ≤ 35; omega) (by show _ ≤ 198; omega) (show decode cX0_init 44 = .ok (.newarray .int, 2) by decide +kernel) (fun st cA H hK hP hD hS => ?_)
  have eA : cA = ca 1 := j_uni (t := 1) hK hE.2.1
  subst eA
  refine lv_dup hx hb (show decode cX0_init 46 = .ok (.dup, 1) by decide +kernel) rfl ?_
  refine lv_iconst (v := 0) hx hb (show decode cX0_init 47 = .ok (.iconst 0, 1) by decide +kernel) (by decide) ?_
  refine lv_sipush (v := 750) hx hb (show decode cX0_init 48 = .ok (.sipush 750, 3) by decide +kernel) (by decide) ?_
  refine va_iast (D := D) hx hb hK hP hD hS 5 3 rfl rfl (i := 0) (show vp_in 0 5 by unfold vp_in; decide) (show decode cX0_init 51 = .ok (.iastore, 1) by decide +kernel) (fun H locs hP hD hS => ?_)
  refine lv_dup hx hb (show decode cX0_init 52 = .ok (.dup, 1) by decide +kernel) rfl ?_
  refine lv_iconst (v := 1) hx hb (show decode cX0_init 53 = .ok (.iconst 1, 1) by decide +kernel) (by decide) ?_
  refine lv_bipush (v := 40) hx hb (show decode cX0_init 54 = .ok (.bipush 40, 2) by decide +kernel) (by decide) ?_
  refine va_iast (D := D) hx hb hK hP hD hS 5 3 rfl rfl (i := 1) (show vp_in 1 5 by unfold vp_in; decide) (show decode cX0_init 56 = .ok (.iastore, 1) by decide +kernel) (fun H locs hP hD hS => ?_)
  refine lv_dup hx hb (show decode cX0_init 57 = .ok (.dup, 1) by decide +kernel) rfl ?_
  refine lv_iconst (v := 2) hx hb (show decode cX0_init 58 = .ok (.iconst 2, 1) by decide +kernel) (by decide) ?_
  refine lv_iconst (v := 5) hx hb (show decode cX0_init 59 = .ok (.iconst 5, 1) by decide +kernel) (by decide) ?_
  refine va_iast (D := D) hx hb hK hP hD hS 5 3 rfl rfl (i := 2) (show vp_in 2 5 by unfold vp_in; decide) (show decode cX0_init 60 = .ok (.iastore, 1) by decide +kernel) (fun H locs hP hD hS => ?_)
  refine lv_dup hx hb (show decode cX0_init 61 = .ok (.dup, 1) by decide +kernel) rfl ?_
  refine lv_iconst (v := 3) hx hb (show decode cX0_init 62 = .ok (.iconst 3, 1) by decide +kernel) (by decide) ?_
  refine lv_bipush (v := 7) hx hb (show decode cX0_init 63 = .ok (.bipush 7, 2) by decide +kernel) (by decide) ?_
  refine va_iast (D := D) hx hb hK hP hD hS 5 3 rfl rfl (i := 3) (show vp_in 3 5 by unfold vp_in; decide) (show decode cX0_init 65 = .ok (.iastore, 1) by decide +kernel) (fun H locs hP hD hS => ?_)
  refine lv_dup hx hb (show decode cX0_init 66 = .ok (.dup, 1) by decide +kernel) rfl ?_
  refine lv_iconst (v := 4) hx hb (show decode cX0_init 67 = .ok (.iconst 4, 1) by decide +kernel) (by decide) ?_
  refine lv_bipush (v := 10) hx hb (show decode cX0_init 68 = .ok (.bipush 10, 2) by decide +kernel) (by decide) ?_
  refine va_iast (D := D) hx hb hK hP hD hS 5 3 rfl rfl (i := 4) (show vp_in 4 5 by unfold vp_in; decide) (show decode cX0_init 70 = .ok (.iastore, 1) by decide +kernel) (fun H locs hP hD hS => ?_)
  refine va_putF (D := D) (ci := 0) (v := .ref st) (ty := .array .int) (C := RX0) (T := TX0) (N := 10) hx hb hts (m_lay 0 (by decide)) tyX0 tyX0_ok nmX0 hown hK hP hD hS 0 rfl rfl 4 (by decide) (hts _ jf_0_settings) (fun _ h9 => h9) rfl hin rfl (by decide +kernel) rfl rfl (Nat.le_of_ble_eq_true rfl) (show decode cX0_init 71 = .ok (.putfield 34, 3) by decide +kernel) (fun H locs hP hD hS => ?_)
  have hK : va_K D vwCl (j_tl ca [6, 7, 8, 1]) s := hK
  have hP : va_P D vwCl ((b, .inr (0, [.ref aD, .ref aC, .ref aB, .ref lo, .ref st, .int 0, .int 0, .int 0, .int 0, .int 0])) :: e_A ca aD 6 8 [] :: e_A ca aC 7 10 [] :: e_A ca aB 8 12 [] :: e_G lo :: e_st ca st :: (([] : va_W) ++ ([] : List Nat).map e_D)) H := hP
  have hD : va_D A ((b, .inr (0, [.ref aD, .ref aC, .ref aB, .ref lo, .ref st, .int 0, .int 0, .int 0, .int 0, .int 0])) :: e_A ca aD 6 8 [] :: e_A ca aC 7 10 [] :: e_A ca aB 8 12 [] :: e_G lo :: e_st ca st :: (([] : va_W) ++ ([] : List Nat).map e_D)) := hD
  refine lv_iconst (v := 0) hx hb (show decode cX0_init 74 = .ok (.iconst 0, 1) by decide +kernel) (by decide) ?_
  refine lv_istore_n (lv' := [(1, .int 0), (0, .ref b)]) hx hb (show decode cX0_init 75 = .ok (.istore_n 1, 1) by decide +kernel) rfl hl (by decide) rfl (fun ls hl => ?_)
  have hP : va_P D vwCl ((b, .inr (0, [.ref aD, .ref aC, .ref aB, .ref lo, .ref st, .int 0, .int 0, .int 0, .int 0, .int 0])) :: e_A ca aD 6 8 [] :: e_A ca aC 7 10 [] :: e_A ca aB 8 12 [] :: e_G lo :: e_st ca st :: (([] : va_W) ++ ([] : List Nat).map e_D)) H := by rw [List.map_nil, List.append_nil]; exact hP
  have hD : va_D A ((b, .inr (0, [.ref aD, .ref aC, .ref aB, .ref lo, .ref st, .int 0, .int 0, .int 0, .int 0, .int 0])) :: e_A ca aD 6 8 [] :: e_A ca aC 7 10 [] :: e_A ca aB 8 12 [] :: e_G lo :: e_st ca st :: (([] : va_W) ++ ([] : List Nat).map e_D)) := by rw [List.map_nil, List.append_nil]; exact hD
  refine j_lpD (x1 := e_A ca aD 6 8 []) (x2 := e_A ca aC 7 10 []) (x3 := e_A ca aB 8 12 []) (x4 := e_G lo) (x5 := e_st ca st) (T := ([] : va_W)) (c0 := 5) (s0 := 38) (R := j_rm 35 198 2) CF hE hA hK rfl rfl ⟨by decide, by decide⟩ ⟨by decide, by decide⟩ (fun LD H locs ls eLD hP hD hS hl => ?_) 8 [] H locs ls rfl hP hD hS hl
  refine lv_iconst (v := 0) hx hb (show decode cX0_init 101 = .ok (.iconst 0, 1) by decide +kernel) (by decide) ?_
  refine lv_istore_n (lv' := [(1, .int 0), (0, .ref b)]) hx hb (show decode cX0_init 102 = .ok (.istore_n 1, 1) by decide +kernel) rfl hl (by decide) rfl (fun ls hl => ?_)
  have hP : va_P D vwCl ((b, .inr (0, [.ref aD, .ref aC, .ref aB, .ref lo, .ref st, .int 0, .int 0, .int 0, .int 0, .int 0])) :: e_A ca aD 6 8 LD :: e_A ca aC 7 10 [] :: e_A ca aB 8 12 [] :: e_G lo :: e_st ca st :: ((([] : va_W) ++ LD.map e_D) ++ ([] : List Nat).map e_C)) H := by rw [List.map_nil, List.append_nil]; exact hP
  have hD : va_D A ((b, .inr (0, [.ref aD, .ref aC, .ref aB, .ref lo, .ref st, .int 0, .int 0, .int 0, .int 0, .int 0])) :: e_A ca aD 6 8 LD :: e_A ca aC 7 10 [] :: e_A ca aB 8 12 [] :: e_G lo :: e_st ca st :: ((([] : va_W) ++ LD.map e_D) ++ ([] : List Nat).map e_C)) := by rw [List.map_nil, List.append_nil]; exact hD
  refine j_lpC (x1 := e_A ca aD 6 8 LD) (x2 := e_A ca aC 7 10 []) (x3 := e_A ca aB 8 12 []) (x4 := e_G lo) (x5 := e_st ca st) (T := (([] : va_W) ++ LD.map e_D)) (c0 := 13) (s0 := 102) (R := j_rm 35 198 2) CF hE hA hK rfl rfl ⟨by decide, by decide⟩ ⟨by decide, by decide⟩ (fun LC H locs ls eLC hP hD hS hl => ?_) 10 [] H locs ls rfl hP hD hS hl
  refine lv_iconst (v := 0) hx hb (show decode cX0_init 128 = .ok (.iconst 0, 1) by decide +kernel) (by decide) ?_
  refine lv_istore_n (lv' := [(1, .int 0), (0, .ref b)]) hx hb (show decode cX0_init 129 = .ok (.istore_n 1, 1) by decide +kernel) rfl hl (by decide) rfl (fun ls hl => ?_)
  have hP : va_P D vwCl ((b, .inr (0, [.ref aD, .ref aC, .ref aB, .ref lo, .ref st, .int 0, .int 0, .int 0, .int 0, .int 0])) :: e_A ca aD 6 8 LD :: e_A ca aC 7 10 LC :: e_A ca aB 8 12 [] :: e_G lo :: e_st ca st :: (((([] : va_W) ++ LD.map e_D) ++ LC.map e_C) ++ ([] : List Nat).map e_G)) H := by rw [List.map_nil, List.append_nil]; exact hP
  have hD : va_D A ((b, .inr (0, [.ref aD, .ref aC, .ref aB, .ref lo, .ref st, .int 0, .int 0, .int 0, .int 0, .int 0])) :: e_A ca aD 6 8 LD :: e_A ca aC 7 10 LC :: e_A ca aB 8 12 [] :: e_G lo :: e_st ca st :: (((([] : va_W) ++ LD.map e_D) ++ LC.map e_C) ++ ([] : List Nat).map e_G)) := by rw [List.map_nil, List.append_nil]; exact hD
  refine j_lpG (x1 := e_A ca aD 6 8 LD) (x2 := e_A ca aC 7 10 LC) (x3 := e_A ca aB 8 12 []) (x4 := e_G lo) (x5 := e_st ca st) (T := ((([] : va_W) ++ LD.map e_D) ++ LC.map e_C)) (c0 := 23) (s0 := 162) (R := j_rm 35 198 2) CF hE hA hK rfl rfl ⟨by decide, by decide⟩ ⟨by decide, by decide⟩ (fun LB H locs ls eLB hP hD hS hl => ?_) 12 [] H locs ls rfl hP hD hS hl
  subst hQ
  exact j_end (u := (aD, aC, aB, lo, st, LD, LC, LB)) hx hb hr hlocks ⟨eLD, eLC, eLB⟩ hP hD hK hS (show decode cX0_init 155 = _ by decide +kernel)
