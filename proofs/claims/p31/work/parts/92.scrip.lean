/-! THE PROGRAM'S CONSTRUCTOR. -/
theorem j_mvP {D : va_G} {cl : List vw_C} {x : Nat × va_E} {b c : va_W} {H : Heap} (h : va_P D cl (x :: (b ++ c)) H) : va_P D cl (x :: (c ++ b)) H := va_P.swap (a := [x]) h
theorem j_mvD {A : Nat → Prop} {x : Nat × va_E} {b c : va_W} (h : va_D A (x :: (b ++ c))) : va_D A (x :: (c ++ b)) := va_D.swap (a := [x]) h
def j_fl (ca : Nat → ClassId) (L : List (Nat × j_S0)) : va_W := L.flatMap (fun x => j_W0 ca x.1 x.2)
theorem j_fl_push (ca : Nat → ClassId) (T : va_W) (L : List (Nat × j_S0)) (q : Nat) (u : j_S0) : (T ++ j_fl ca L) ++ j_W0 ca q u = T ++ j_fl ca (L ++ [(q, u)]) := by
  unfold j_fl
  rw [List.flatMap_append, List.append_assoc, List.flatMap_cons, List.flatMap_nil, List.append_nil]
theorem j_inx {α : Type} (a b x : α) (T V : List α) : (a :: b :: (T ++ (x :: V)))[T.length + 2]? = some x := by
  show (T ++ (x :: V))[T.length]? = some x
  simp
def j_oks (L : List (Nat × j_S0)) : Prop := ∀ x ∈ L, j_S0.ok x.2
theorem j_oks_push {L : List (Nat × j_S0)} {q : Nat} {u : j_S0} (h : j_oks L) (hu : j_S0.ok u) : j_oks (L ++ [(q, u)]) := by
  intro x hx
  rcases List.mem_append.mp hx with hx | hx
  · exact h x hx
  · rw [List.mem_singleton.mp hx]
    exact hu
section SCRIP
variable {p : Program} {l : Launch} {e : Env} {R : Room} {s : State} {m : MethodId} {args : Array Value} {below : List Frame} {meth : Method} {c : Code} {Q : State → Prop} {D : va_G} {ca : Nat → ClassId} {A : Nat → Prop}

set_option maxHeartbeats 4000000 in
set_option maxRecDepth 20000 in
/-- the loop that makes the camps of slots -/
theorem j_lpS (CF : CallFix p m c cX5_init 2 s args lw_g RX5) (hE : j_env D ca s) (hA : ∀ q, s.heap.size ≤ q → A q) {tys : List (ClassId × FieldType)} (hK : va_K D vwCl tys s) {t0 : Nat} (ht : tys[t0]? = some (ca 5, .object "FineScrip$Camp")) {b q0 : Nat} {fs : List Value} (hfs : fs[2]? = some (.ref q0)) {T : va_W} {c0 s0 : Nat} (hRf : 3 ≤ R.frames ∧ 120 ≤ R.locals) (hRc : c0 + 36 * 2 ≤ R.cells ∧ s0 + 208 * 2 ≤ R.slots)
    (kk : ∀ (L : List (Nat × j_S0)) (H : Heap) (locs : List Loc) (ls : Array Slot), L.length = 2 → j_oks L → va_P D vwCl ((b, .inr (5, fs)) :: e_A ca q0 5 2 (L.map Prod.fst) :: (T ++ j_fl ca L)) H → va_D A ((b, .inr (5, fs)) :: e_A ca q0 5 2 (L.map Prod.fst) :: (T ++ j_fl ca L)) → va_S A s.heap H locs → lv_has ls 2 [(0, .ref b)] → W p l e R s m args below meth c H locs (c0 + 36 * 2) (s0 + 208 * 2) Q (F0 m 67 ls [])) :
    ∀ (n : Nat) (L : List (Nat × j_S0)) (H : Heap) (locs : List Loc) (ls : Array Slot), L.length + n = 2 → j_oks L → va_P D vwCl ((b, .inr (5, fs)) :: e_A ca q0 5 2 (L.map Prod.fst) :: (T ++ j_fl ca L)) H → va_D A ((b, .inr (5, fs)) :: e_A ca q0 5 2 (L.map Prod.fst) :: (T ++ j_fl ca L)) → va_S A s.heap H locs → lv_has ls 2 [(1, .int (nI L.length)), (0, .ref b)] →
      W p l e R s m args below meth c H locs (c0 + 36 * L.length) (s0 + 208 * L.length) Q (F0 m 43 ls []) := by
  obtain ⟨hx, hb, hml, hown, hts⟩ := id CF
  intro n
  induction n with
  | zero =>
    intro L H locs ls hn hok hP hD hS hl
    have hL : L.length = 2 := by omega
    refine lv_iload_n hx hb (show decode cX5_init 43 = .ok (.iload_n 1, 1) by decide +kernel) rfl (lv_at hl 0 rfl) ?_
    refine lv_iconst (v := 2) hx hb (show decode cX5_init 44 = .ok (.iconst 2, 1) by decide +kernel) (by decide) ?_
    refine lv_icmp_ge (tgt := 67) hx hb (show decode cX5_init 45 = .ok (.if_icmp .ge 22, 3) by decide +kernel) (by decide) (fun hc => ?_) (fun hc => ?_)
    · have := kk L H locs ls hL hok hP hD hS (lv_sub hl [1] rfl)
      rw [hL]
      exact this
    · exact absurd (nI_le (by omega) (by omega) : nI 2 ≤ nI L.length) (by first | exact hc | exact Int32.not_le.mpr hc)
  | succ n ih =>
    intro L H locs ls hn hok hP hD hS hl
    have hL : L.length < 2 := by omega
    refine lv_iload_n hx hb (show decode cX5_init 43 = .ok (.iload_n 1, 1) by decide +kernel) rfl (lv_at hl 0 rfl) ?_
    refine lv_iconst (v := 2) hx hb (show decode cX5_init 44 = .ok (.iconst 2, 1) by decide +kernel) (by decide) ?_
    refine lv_icmp_ge (tgt := 67) hx hb (show decode cX5_init 45 = .ok (.if_icmp .ge 22, 3) by decide +kernel) (by decide) (fun hc => ?_) (fun hc => ?_)
    · exact absurd hc (nI_ge hL (by decide) : ¬ nI 2 ≤ nI L.length)
    · refine lv_aload_n hx hb (show decode cX5_init 48 = .ok (.aload_n 0, 1) by decide +kernel) rfl (lv_at hl 1 rfl) ?_
      refine va_get (D := D) (ci := 5) (v := .ref q0) (C := RX5) (T := TX5) (N := 6) hx hb hts (m_lay 5 (by decide)) hown hK hP 0 rfl rfl 2 (by decide) (hts _ jf_5_slots) (fun _ h9 => h9) hfs (show decode cX5_init 49 = .ok (.getfield 23, 3) by decide +kernel) ?_
      refine lv_iload_n hx hb (show decode cX5_init 52 = .ok (.iload_n 1, 1) by decide +kernel) rfl (lv_at hl 0 rfl) ?_
      refine va_new (D := D) (ci := 0) (fs := j_df 0) (C := RX0) (T := TX0) (N := 10) hx hb hts (m_lay 0 (by decide)) tyX0 tyX0_ok hown (hts _ jl_50) (hts _ js_0) (hts _ ji_0) hK hP hD hS hA rfl (fun j hj => by rcases (show j = 0 ∨ j = 1 ∨ j = 2 ∨ j = 3 ∨ j = 4 ∨ j = 5 ∨ j = 6 ∨ j = 7 ∨ j = 8 ∨ j = 9 by omega) with rfl | rfl | rfl | rfl | rfl | rfl | rfl | rfl | rfl | rfl <;> rfl) (by omega) (by omega) (show decode cX5_init 53 = .ok (.new 7, 3) by decide +kernel) (fun q H1 hP hD hS => ?_)
      refine lv_dup hx hb (show decode cX5_init 56 = .ok (.dup, 1) by decide +kernel) rfl ?_
      refine j_callI (W0 := (b, .inr (5, fs)) :: e_A ca q0 5 2 (L.map Prod.fst) :: (T ++ j_fl ca L)) CF hE (j_camp l D ca) (by decide +kernel) rfl rfl rfl rfl (by decide) jm_0 ji_0 jc_50 (show decode cX5_init 57 = .ok (.invokespecial 9, 3) by decide +kernel) ⟨hRf.1, Nat.le_trans (show 8 + (m_ml 0 + 11) + 40 * 2 ≤ 120 by decide +kernel) hRf.2⟩ (by omega) hl.1 (show 3 ≤ 8 by decide) hP hD hS hA (fun u H2 locs2 hu hP hD _ hS => ?_)
      have hP : va_P D vwCl ((b, .inr (5, fs)) :: e_A ca q0 5 2 (L.map Prod.fst) :: ((T ++ j_fl ca L) ++ j_W0 ca q u)) H2 := hP
      have hD : va_D A ((b, .inr (5, fs)) :: e_A ca q0 5 2 (L.map Prod.fst) :: ((T ++ j_fl ca L) ++ j_W0 ca q u)) := hD
      have hz : vp_in (nI L.length) 2 := vp_in_nI hL (by decide)
      refine va_astq (D := D) hx hb hK hP hD hS 1 t0 ((T ++ j_fl ca L).length + 2) 0 rfl ht (j_inx _ _ _ _ _) (show vwCl[0]? = some (RX0, TX0, 10) from rfl) hz (show decode cX5_init 60 = .ok (.aastore, 1) by decide +kernel) (fun H3 locs3 hP hD hS => ?_)
      have eU : va_up (fun i => (L.map Prod.fst)[i]?) (nI L.length).toNatClampNeg (some q) = fun i => ((L ++ [(q, u)]).map Prod.fst)[i]? := by
        have h := j_up (L.map Prod.fst) q
        rw [List.length_map] at h
        rw [nI_clamp (by omega), h, List.map_append]
        rfl
      rw [eU] at hP hD
      have hP : va_P D vwCl ((b, .inr (5, fs)) :: e_A ca q0 5 2 ((L ++ [(q, u)]).map Prod.fst) :: ((T ++ j_fl ca L) ++ j_W0 ca q u)) H3 := hP
      have hD : va_D A ((b, .inr (5, fs)) :: e_A ca q0 5 2 ((L ++ [(q, u)]).map Prod.fst) :: ((T ++ j_fl ca L) ++ j_W0 ca q u)) := hD
      rw [j_fl_push] at hP hD
      have hlen : (L ++ [(q, u)]).length = L.length + 1 := by simp
      refine lv_iinc (v := nI (L ++ [(q, u)]).length) (lv' := [(1, .int (nI (L ++ [(q, u)]).length)), (0, .ref b)]) hx hb (show decode cX5_init 61 = .ok (.iinc 1 1, 3) by decide +kernel) hl (k := 0) rfl (by rw [hlen]; exact nI_1 _) (by decide) rfl (fun ls hl => ?_)
      refine lv_goto (tgt := 43) hx hb (show decode cX5_init 64 = .ok (.goto (-21), 3) by decide +kernel) (by decide) ?_
      have := ih (L ++ [(q, u)]) H3 locs3 ls (by omega) (j_oks_push hok hu) hP hD hS hl
      rw [hlen] at this
      have e1 : c0 + 36 * L.length + 1 + 35 = c0 + 36 * (L.length + 1) := by omega
      have e2 : s0 + 208 * L.length + 10 + 198 = s0 + 208 * (L.length + 1) := by omega
      rw [e1, e2]
      exact this

set_option maxHeartbeats 4000000 in
set_option maxRecDepth 20000 in
/-- the loop that makes the camps of saved -/
theorem j_lpV (CF : CallFix p m c cX5_init 2 s args lw_g RX5) (hE : j_env D ca s) (hA : ∀ q, s.heap.size ≤ q → A q) {tys : List (ClassId × FieldType)} (hK : va_K D vwCl tys s) {t0 : Nat} (ht : tys[t0]? = some (ca 5, .object "FineScrip$Camp")) {b q0 : Nat} {fs : List Value} (hfs : fs[4]? = some (.ref q0)) {T : va_W} {c0 s0 : Nat} (hRf : 3 ≤ R.frames ∧ 120 ≤ R.locals) (hRc : c0 + 36 * 6 ≤ R.cells ∧ s0 + 208 * 6 ≤ R.slots)
    (kk : ∀ (L : List (Nat × j_S0)) (H : Heap) (locs : List Loc) (ls : Array Slot), L.length = 6 → j_oks L → va_P D vwCl ((b, .inr (5, fs)) :: e_A ca q0 5 6 (L.map Prod.fst) :: (T ++ j_fl ca L)) H → va_D A ((b, .inr (5, fs)) :: e_A ca q0 5 6 (L.map Prod.fst) :: (T ++ j_fl ca L)) → va_S A s.heap H locs → lv_has ls 2 [(0, .ref b)] → W p l e R s m args below meth c H locs (c0 + 36 * 6) (s0 + 208 * 6) Q (F0 m 103 ls [])) :
    ∀ (n : Nat) (L : List (Nat × j_S0)) (H : Heap) (locs : List Loc) (ls : Array Slot), L.length + n = 6 → j_oks L → va_P D vwCl ((b, .inr (5, fs)) :: e_A ca q0 5 6 (L.map Prod.fst) :: (T ++ j_fl ca L)) H → va_D A ((b, .inr (5, fs)) :: e_A ca q0 5 6 (L.map Prod.fst) :: (T ++ j_fl ca L)) → va_S A s.heap H locs → lv_has ls 2 [(1, .int (nI L.length)), (0, .ref b)] →
      W p l e R s m args below meth c H locs (c0 + 36 * L.length) (s0 + 208 * L.length) Q (F0 m 78 ls []) := by
  obtain ⟨hx, hb, hml, hown, hts⟩ := id CF
  intro n
  induction n with
  | zero =>
    intro L H locs ls hn hok hP hD hS hl
    have hL : L.length = 6 := by omega
    refine lv_iload_n hx hb (show decode cX5_init 78 = .ok (.iload_n 1, 1) by decide +kernel) rfl (lv_at hl 0 rfl) ?_
    refine lv_bipush (v := 6) hx hb (show decode cX5_init 79 = .ok (.bipush 6, 2) by decide +kernel) (by decide) ?_
    refine lv_icmp_ge (tgt := 103) hx hb (show decode cX5_init 81 = .ok (.if_icmp .ge 22, 3) by decide +kernel) (by decide) (fun hc => ?_) (fun hc => ?_)
    · have := kk L H locs ls hL hok hP hD hS (lv_sub hl [1] rfl)
      rw [hL]
      exact this
    · exact absurd (nI_le (by omega) (by omega) : nI 6 ≤ nI L.length) (by first | exact hc | exact Int32.not_le.mpr hc)
  | succ n ih =>
    intro L H locs ls hn hok hP hD hS hl
    have hL : L.length < 6 := by omega
    refine lv_iload_n hx hb (show decode cX5_init 78 = .ok (.iload_n 1, 1) by decide +kernel) rfl (lv_at hl 0 rfl) ?_
    refine lv_bipush (v := 6) hx hb (show decode cX5_init 79 = .ok (.bipush 6, 2) by decide +kernel) (by decide) ?_
    refine lv_icmp_ge (tgt := 103) hx hb (show decode cX5_init 81 = .ok (.if_icmp .ge 22, 3) by decide +kernel) (by decide) (fun hc => ?_) (fun hc => ?_)
    · exact absurd hc (nI_ge hL (by decide) : ¬ nI 6 ≤ nI L.length)
    · refine lv_aload_n hx hb (show decode cX5_init 84 = .ok (.aload_n 0, 1) by decide +kernel) rfl (lv_at hl 1 rfl) ?_
      refine va_get (D := D) (ci := 5) (v := .ref q0) (C := RX5) (T := TX5) (N := 6) hx hb hts (m_lay 5 (by decide)) hown hK hP 0 rfl rfl 4 (by decide) (hts _ jf_5_saved) (fun _ h9 => h9) hfs (show decode cX5_init 85 = .ok (.getfield 31, 3) by decide +kernel) ?_
      refine lv_iload_n hx hb (show decode cX5_init 88 = .ok (.iload_n 1, 1) by decide +kernel) rfl (lv_at hl 0 rfl) ?_
      refine va_new (D := D) (ci := 0) (fs := j_df 0) (C := RX0) (T := TX0) (N := 10) hx hb hts (m_lay 0 (by decide)) tyX0 tyX0_ok hown (hts _ jl_50) (hts _ js_0) (hts _ ji_0) hK hP hD hS hA rfl (fun j hj => by rcases (show j = 0 ∨ j = 1 ∨ j = 2 ∨ j = 3 ∨ j = 4 ∨ j = 5 ∨ j = 6 ∨ j = 7 ∨ j = 8 ∨ j = 9 by omega) with rfl | rfl | rfl | rfl | rfl | rfl | rfl | rfl | rfl | rfl <;> rfl) (by omega) (by omega) (show decode cX5_init 89 = .ok (.new 7, 3) by decide +kernel) (fun q H1 hP hD hS => ?_)
      refine lv_dup hx hb (show decode cX5_init 92 = .ok (.dup, 1) by decide +kernel) rfl ?_
      refine j_callI (W0 := (b, .inr (5, fs)) :: e_A ca q0 5 6 (L.map Prod.fst) :: (T ++ j_fl ca L)) CF hE (j_camp l D ca) (by decide +kernel) rfl rfl rfl rfl (by decide) jm_0 ji_0 jc_50 (show decode cX5_init 93 = .ok (.invokespecial 9, 3) by decide +kernel) ⟨hRf.1, Nat.le_trans (show 8 + (m_ml 0 + 11) + 40 * 2 ≤ 120 by decide +kernel) hRf.2⟩ (by omega) hl.1 (show 3 ≤ 8 by decide) hP hD hS hA (fun u H2 locs2 hu hP hD _ hS => ?_)
      have hP : va_P D vwCl ((b, .inr (5, fs)) :: e_A ca q0 5 6 (L.map Prod.fst) :: ((T ++ j_fl ca L) ++ j_W0 ca q u)) H2 := hP
      have hD : va_D A ((b, .inr (5, fs)) :: e_A ca q0 5 6 (L.map Prod.fst) :: ((T ++ j_fl ca L) ++ j_W0 ca q u)) := hD
      have hz : vp_in (nI L.length) 6 := vp_in_nI hL (by decide)
      refine va_astq (D := D) hx hb hK hP hD hS 1 t0 ((T ++ j_fl ca L).length + 2) 0 rfl ht (j_inx _ _ _ _ _) (show vwCl[0]? = some (RX0, TX0, 10) from rfl) hz (show decode cX5_init 96 = .ok (.aastore, 1) by decide +kernel) (fun H3 locs3 hP hD hS => ?_)
      have eU : va_up (fun i => (L.map Prod.fst)[i]?) (nI L.length).toNatClampNeg (some q) = fun i => ((L ++ [(q, u)]).map Prod.fst)[i]? := by
        have h := j_up (L.map Prod.fst) q
        rw [List.length_map] at h
        rw [nI_clamp (by omega), h, List.map_append]
        rfl
      rw [eU] at hP hD
      have hP : va_P D vwCl ((b, .inr (5, fs)) :: e_A ca q0 5 6 ((L ++ [(q, u)]).map Prod.fst) :: ((T ++ j_fl ca L) ++ j_W0 ca q u)) H3 := hP
      have hD : va_D A ((b, .inr (5, fs)) :: e_A ca q0 5 6 ((L ++ [(q, u)]).map Prod.fst) :: ((T ++ j_fl ca L) ++ j_W0 ca q u)) := hD
      rw [j_fl_push] at hP hD
      have hlen : (L ++ [(q, u)]).length = L.length + 1 := by simp
      refine lv_iinc (v := nI (L ++ [(q, u)]).length) (lv' := [(1, .int (nI (L ++ [(q, u)]).length)), (0, .ref b)]) hx hb (show decode cX5_init 97 = .ok (.iinc 1 1, 3) by decide +kernel) hl (k := 0) rfl (by rw [hlen]; exact nI_1 _) (by decide) rfl (fun ls hl => ?_)
      refine lv_goto (tgt := 78) hx hb (show decode cX5_init 100 = .ok (.goto (-22), 3) by decide +kernel) (by decide) ?_
      have := ih (L ++ [(q, u)]) H3 locs3 ls (by omega) (j_oks_push hok hu) hP hD hS hl
      rw [hlen] at this
      have e1 : c0 + 36 * L.length + 1 + 35 = c0 + 36 * (L.length + 1) := by omega
      have e2 : s0 + 208 * L.length + 10 + 198 = s0 + 208 * (L.length + 1) := by omega
      rw [e1, e2]
      exact this

end SCRIP
abbrev j_S5 : Type := Nat × j_S0 × Nat × Nat × Nat × Nat × Nat × List (Nat × j_S0) × List (Nat × j_S0)
abbrev j_S5.cp (u : j_S5) : Nat := u.1
abbrev j_S5.u0 (u : j_S5) : j_S0 := u.2.1
abbrev j_S5.t (u : j_S5) : Nat := u.2.2.1
abbrev j_S5.q (u : j_S5) : Nat := u.2.2.2.1
abbrev j_S5.sl (u : j_S5) : Nat := u.2.2.2.2.1
abbrev j_S5.tk (u : j_S5) : Nat := u.2.2.2.2.2.1
abbrev j_S5.sv (u : j_S5) : Nat := u.2.2.2.2.2.2.1
abbrev j_S5.L (u : j_S5) : List (Nat × j_S0) := u.2.2.2.2.2.2.2.1
abbrev j_S5.V (u : j_S5) : List (Nat × j_S0) := u.2.2.2.2.2.2.2.2
def j_S5.ok (u : j_S5) : Prop := j_S0.ok (j_S5.u0 u) ∧ ((j_S5.L u).length = 2 ∧ j_oks (j_S5.L u)) ∧ ((j_S5.V u).length = 6 ∧ j_oks (j_S5.V u))
def e_T (t q : Nat) : Nat × va_E := (t, .inr (2, [.ref q, .int 0, .int 0, .int 0, .int 0, .int 0]))
/-- an array of zeros -/
def e_Z (ca : Nat → ClassId) (a t n : Nat) : Nat × va_E := (a, .inl (ca t, n, .inl (fun _ => 0)))
def j_W5 (ca : Nat → ClassId) (b : Nat) (u : j_S5) : va_W :=
  (b, .inr (5, [.ref (j_S5.cp u), .ref (j_S5.t u), .ref (j_S5.sl u), .ref (j_S5.tk u), .ref (j_S5.sv u), .int 0])) :: e_A ca (j_S5.sv u) 5 6 ((j_S5.V u).map Prod.fst) :: ((e_A ca (j_S5.sl u) 5 2 ((j_S5.L u).map Prod.fst) :: (((j_W0 ca (j_S5.cp u) (j_S5.u0 u) ++ [e_T (j_S5.t u) (j_S5.q u), e_Z ca (j_S5.q u) 3 60]) ++ [e_Z ca (j_S5.tk u) 2 2]) ++ j_fl ca (j_S5.L u))) ++ j_fl ca (j_S5.V u))
set_option maxHeartbeats 4000000 in
set_option maxRecDepth 20000 in
theorem j_scrip (l : Launch) (D : va_G) (ca : Nat → ClassId) : j_Met l D ca 53 5 j_S5.ok (j_W5 ca) [6, 7, 8, 1, 3, 5, 2] 329 1948 3 := by
  refine j_start (k := 1) (by decide +kernel) rfl rfl rfl jo_5 (show decode cX5_init 0 = _ by decide +kernel) (show decode cX5_init 1 = _ by decide +kernel) (by decide +kernel) (by decide) ?_
  intro b p e s m args below meth c A ls ⟨CF, hE, hr, hin, hlocks, hA, hP, hD, hl⟩
  have CF : CallFix p m c cX5_init 2 s args lw_g RX5 := CF
  obtain ⟨hx, hb, hml, hown, hts⟩ := id CF
  have hl : lv_has ls 2 [(0, .ref b)] := hl
  generalize hQ : MQ below _ args s _ _ A = Q
  have hS : va_S A s.heap s.heap [] := va_S.rf
  have hK := hE.1
  refine lv_aload_n hx hb (show decode cX5_init 4 = .ok (.aload_n 0, 1) by decide +kernel) rfl (lv_at hl 0 rfl) ?_
  refine va_new (D := D) (ci := 0) (fs := j_df 0) (C := RX0) (T := TX0) (N := 10) hx hb hts (m_lay 0 (by decide)) tyX0 tyX0_ok hown (hts _ jl_50) (hts _ js_0) (hts _ ji_0) hK hP hD hS hA rfl (fun j hj => by rcases (show j = 0 ∨ j = 1 ∨ j = 2 ∨ j = 3 ∨ j = 4 ∨ j = 5 ∨ j = 6 ∨ j = 7 ∨ j = 8 ∨ j = 9 by omega) with rfl | rfl | rfl | rfl | rfl | rfl | rfl | rfl | rfl | rfl <;> rfl) (by show _ ≤ 329; omega) (by show _ ≤ 1948; omega) (show decode cX5_init 5 = .ok (.new 7, 3) by decide +kernel) (fun cp H hP hD hS => ?_)
  refine lv_dup hx hb (show decode cX5_init 8 = .ok (.dup, 1) by decide +kernel) rfl ?_
  refine j_callI (W0 := [j_x b 5]) CF hE (j_camp l D ca) (by decide +kernel) rfl rfl rfl rfl (by decide) jm_0 ji_0 jc_50 (show decode cX5_init 9 = .ok (.invokespecial 9, 3) by decide +kernel) ⟨by decide, show 8 + (m_ml 0 + 11) + 40 * 2 ≤ 120 by decide +kernel⟩ ⟨by show _ ≤ 329; omega, by show _ ≤ 1948; omega⟩ hl.1 (show 2 ≤ 8 by decide) hP hD hS hA (fun u0 H locs hu0 hP hD hK0 hS => ?_)
  have hP : va_P D vwCl ((b, .inr (5, [.null, .null, .null, .null, .null, .int 0])) :: j_W0 ca cp u0) H := hP
  have hD : va_D A ((b, .inr (5, [.null, .null, .null, .null, .null, .int 0])) :: j_W0 ca cp u0) := hD
  refine va_putF (D := D) (ci := 5) (v := .ref cp) (ty := .object "FineScrip$Camp") (C := RX5) (T := TX5) (N := 6) hx hb hts (m_lay 5 (by decide)) tyX5 tyX5_ok nmX5 hown hK hP hD hS 0 rfl rfl 0 (by decide) (hts _ jf_5_camp) (fun _ h9 => h9) rfl hin rfl (by decide +kernel) rfl rfl (Nat.le_of_ble_eq_true rfl) (show decode cX5_init 12 = .ok (.putfield 10, 3) by decide +kernel) (fun H locs hP hD hS => ?_)
  have hP : va_P D vwCl ((b, .inr (5, [.ref cp, .null, .null, .null, .null, .int 0])) :: j_W0 ca cp u0) H := hP
  have hD : va_D A ((b, .inr (5, [.ref cp, .null, .null, .null, .null, .int 0])) :: j_W0 ca cp u0) := hD
  refine lv_aload_n hx hb (show decode cX5_init 15 = .ok (.aload_n 0, 1) by decide +kernel) rfl (lv_at hl 0 rfl) ?_
  refine va_new (D := D) (ci := 2) (fs := j_df 2) (C := RX2) (T := TX2) (N := 6) hx hb hts (m_lay 2 (by decide)) tyX2 tyX2_ok hown (hts _ jl_52) (hts _ js_2) (hts _ ji_2) hK hP hD hS hA rfl (fun j hj => by rcases (show j = 0 ∨ j = 1 ∨ j = 2 ∨ j = 3 ∨ j = 4 ∨ j = 5 by omega) with rfl | rfl | rfl | rfl | rfl | rfl <;> rfl) (by show _ ≤ 329; omega) (by show _ ≤ 1948; omega) (show decode cX5_init 16 = .ok (.new 16, 3) by decide +kernel) (fun t H hP hD hS => ?_)
  refine lv_dup hx hb (show decode cX5_init 19 = .ok (.dup, 1) by decide +kernel) rfl ?_
  refine j_callN (W0 := (b, .inr (5, [.ref cp, .null, .null, .null, .null, .int 0])) :: j_W0 ca cp u0) CF hE (j_text l D ca) (by decide +kernel) rfl rfl rfl rfl (by decide) jm_2 ji_2 (List.mem_of_getElem? (i := 3) rfl) (show decode cX5_init 20 = .ok (.invokespecial 18, 3) by decide +kernel) ⟨by decide, show 8 + (m_ml 34 + 11) + 40 * 1 ≤ 120 by decide +kernel⟩ ⟨by show _ ≤ 329; omega, by show _ ≤ 1948; omega⟩ hl.1 (show 2 ≤ 8 by decide) hP hD hS hA (fun q H locs _ hP hD hK1 hS => ?_)
  have hP : va_P D vwCl ((b, .inr (5, [.ref cp, .null, .null, .null, .null, .int 0])) :: (j_W0 ca cp u0 ++ [e_T t q, e_Z ca q 3 60])) H := hP
  have hD : va_D A ((b, .inr (5, [.ref cp, .null, .null, .null, .null, .int 0])) :: (j_W0 ca cp u0 ++ [e_T t q, e_Z ca q 3 60])) := hD
  refine va_putF (D := D) (ci := 5) (v := .ref t) (ty := .object "FineScrip$DayText") (C := RX5) (T := TX5) (N := 6) hx hb hts (m_lay 5 (by decide)) tyX5 tyX5_ok nmX5 hown hK hP hD hS 0 rfl rfl 1 (by decide) (hts _ jf_5_text) (fun _ h9 => h9) rfl hin rfl (by decide +kernel) rfl rfl (Nat.le_of_ble_eq_true rfl) (show decode cX5_init 23 = .ok (.putfield 19, 3) by decide +kernel) (fun H locs hP hD hS => ?_)
  have hP : va_P D vwCl ((b, .inr (5, [.ref cp, .ref t, .null, .null, .null, .int 0])) :: (j_W0 ca cp u0 ++ [e_T t q, e_Z ca q 3 60])) H := hP
  have hD : va_D A ((b, .inr (5, [.ref cp, .ref t, .null, .null, .null, .int 0])) :: (j_W0 ca cp u0 ++ [e_T t q, e_Z ca q 3 60])) := hD
  refine lv_aload_n hx hb (show decode cX5_init 26 = .ok (.aload_n 0, 1) by decide +kernel) rfl (lv_at hl 0 rfl) ?_
  refine lv_iconst (v := 2) hx hb (show decode cX5_init 27 = .ok (.iconst 2, 1) by decide +kernel) (by decide) ?_
  refine va_newq (N' := 2) hx hb hown (hts _ jl_50) (hE.2.2.2 "FineScrip$Camp" (by decide)) hK hP hD hS hA (by decide) (by decide) (by decide) (by show _ ≤ 329; omega) (by show _ ≤ 1948; omega) (show decode cX5_init 28 = .ok (.anewarray 7, 3) by decide +kernel) (fun sl cA H hK2 hP hD hS => ?_)
  have eA : cA = ca 5 := j_uni (t := 5) hK2 hE.2.1
  subst eA
  have hP : va_P D vwCl ((b, .inr (5, [.ref cp, .ref t, .null, .null, .null, .int 0])) :: ((j_W0 ca cp u0 ++ [e_T t q, e_Z ca q 3 60]) ++ [e_A ca sl 5 2 []])) H := hP
  have hD : va_D A ((b, .inr (5, [.ref cp, .ref t, .null, .null, .null, .int 0])) :: ((j_W0 ca cp u0 ++ [e_T t q, e_Z ca q 3 60]) ++ [e_A ca sl 5 2 []])) := hD
  have hP : va_P D vwCl ((b, .inr (5, [.ref cp, .ref t, .null, .null, .null, .int 0])) :: e_A ca sl 5 2 [] :: (j_W0 ca cp u0 ++ [e_T t q, e_Z ca q 3 60])) H := j_mvP hP
  have hD : va_D A ((b, .inr (5, [.ref cp, .ref t, .null, .null, .null, .int 0])) :: e_A ca sl 5 2 [] :: (j_W0 ca cp u0 ++ [e_T t q, e_Z ca q 3 60])) := j_mvD hD
  refine va_putF (D := D) (ci := 5) (v := .ref sl) (ty := .array (.object "FineScrip$Camp")) (C := RX5) (T := TX5) (N := 6) hx hb hts (m_lay 5 (by decide)) tyX5 tyX5_ok nmX5 hown hK hP hD hS 0 rfl rfl 2 (by decide) (hts _ jf_5_slots) (fun _ h9 => h9) rfl hin rfl (by decide +kernel) rfl rfl (Nat.le_of_ble_eq_true rfl) (show decode cX5_init 31 = .ok (.putfield 23, 3) by decide +kernel) (fun H locs hP hD hS => ?_)
  have hP : va_P D vwCl ((b, .inr (5, [.ref cp, .ref t, .ref sl, .null, .null, .int 0])) :: e_A ca sl 5 2 [] :: (j_W0 ca cp u0 ++ [e_T t q, e_Z ca q 3 60])) H := hP
  have hD : va_D A ((b, .inr (5, [.ref cp, .ref t, .ref sl, .null, .null, .int 0])) :: e_A ca sl 5 2 [] :: (j_W0 ca cp u0 ++ [e_T t q, e_Z ca q 3 60])) := hD
  refine lv_aload_n hx hb (show decode cX5_init 34 = .ok (.aload_n 0, 1) by decide +kernel) rfl (lv_at hl 0 rfl) ?_
  refine lv_iconst (v := 2) hx hb (show decode cX5_init 35 = .ok (.iconst 2, 1) by decide +kernel) (by decide) ?_
  refine va_newa (D := D) (atype := .boolean) (ty := .boolean) (N' := 2) (a0 := (2, .inl (fun _ => 0))) hx hb (hts _ ja_boolean) rfl hK hP hD hS hA (fun _ => rfl) (by decide) (by decide) (by decide) (by show _ ≤ 329; omega) (by show _ ≤ 1948; omega) (show decode cX5_init 36 = .ok (.newarray .boolean, 2) by decide +kernel) (fun tk cA H hK3 hP hD hS => ?_)
  have eA : cA = ca 2 := j_uni (t := 2) hK3 hE.2.1
  subst eA
  have hP : va_P D vwCl ((b, .inr (5, [.ref cp, .ref t, .ref sl, .null, .null, .int 0])) :: e_A ca sl 5 2 [] :: ((j_W0 ca cp u0 ++ [e_T t q, e_Z ca q 3 60]) ++ [e_Z ca tk 2 2])) H := hP
  have hD : va_D A ((b, .inr (5, [.ref cp, .ref t, .ref sl, .null, .null, .int 0])) :: e_A ca sl 5 2 [] :: ((j_W0 ca cp u0 ++ [e_T t q, e_Z ca q 3 60]) ++ [e_Z ca tk 2 2])) := hD
  refine va_putF (D := D) (ci := 5) (v := .ref tk) (ty := .array .boolean) (C := RX5) (T := TX5) (N := 6) hx hb hts (m_lay 5 (by decide)) tyX5 tyX5_ok nmX5 hown hK hP hD hS 0 rfl rfl 3 (by decide) (hts _ jf_5_slotTaken) (fun _ h9 => h9) rfl hin rfl (by decide +kernel) rfl rfl (Nat.le_of_ble_eq_true rfl) (show decode cX5_init 38 = .ok (.putfield 27, 3) by decide +kernel) (fun H locs hP hD hS => ?_)
  have hP : va_P D vwCl ((b, .inr (5, [.ref cp, .ref t, .ref sl, .ref tk, .null, .int 0])) :: e_A ca sl 5 2 (([] : List (Nat × j_S0)).map Prod.fst) :: (((j_W0 ca cp u0 ++ [e_T t q, e_Z ca q 3 60]) ++ [e_Z ca tk 2 2]) ++ j_fl ca [])) H := by rw [show j_fl ca [] = [] from rfl, List.append_nil]; exact hP
  have hD : va_D A ((b, .inr (5, [.ref cp, .ref t, .ref sl, .ref tk, .null, .int 0])) :: e_A ca sl 5 2 (([] : List (Nat × j_S0)).map Prod.fst) :: (((j_W0 ca cp u0 ++ [e_T t q, e_Z ca q 3 60]) ++ [e_Z ca tk 2 2]) ++ j_fl ca [])) := by rw [show j_fl ca [] = [] from rfl, List.append_nil]; exact hD
  have hK9 : va_K D vwCl (j_tl ca [6, 7, 8, 1, 3, 5, 2]) s := va_K.app hK0 (va_K.app hK1 (va_K.app (t1 := j_tl ca [5]) hK2 (t2 := j_tl ca [2]) hK3))
  refine lv_iconst (v := 0) hx hb (show decode cX5_init 41 = .ok (.iconst 0, 1) by decide +kernel) (by decide) ?_
  refine lv_istore_n (lv' := [(1, .int 0), (0, .ref b)]) hx hb (show decode cX5_init 42 = .ok (.istore_n 1, 1) by decide +kernel) rfl hl (by decide) rfl (fun ls hl => ?_)
  refine j_lpS (T := ((j_W0 ca cp u0 ++ [e_T t q, e_Z ca q 3 60]) ++ [e_Z ca tk 2 2])) (c0 := 40) (s0 := 278) (R := j_rm 329 1948 3) (t0 := 5) CF hE hA hK9 rfl rfl ⟨by decide, by decide⟩ ⟨by decide, by decide⟩ (fun L H locs ls eL oL hP hD hS hl => ?_) 2 [] H locs ls rfl (fun _ h => absurd h List.not_mem_nil) hP hD hS hl
  refine lv_aload_n hx hb (show decode cX5_init 67 = .ok (.aload_n 0, 1) by decide +kernel) rfl (lv_at hl 0 rfl) ?_
  refine lv_bipush (v := 6) hx hb (show decode cX5_init 68 = .ok (.bipush 6, 2) by decide +kernel) (by decide) ?_
  refine va_newq (N' := 6) hx hb hown (hts _ jl_50) (hE.2.2.2 "FineScrip$Camp" (by decide)) hK hP hD hS hA (by decide) (by decide) (by decide) (by show _ ≤ 329; omega) (by show _ ≤ 1948; omega) (show decode cX5_init 70 = .ok (.anewarray 7, 3) by decide +kernel) (fun sv cA H hK4 hP hD hS => ?_)
  have eA : cA = ca 5 := j_uni (t := 5) hK4 hE.2.1
  subst eA
  have hP : va_P D vwCl ((b, .inr (5, [.ref cp, .ref t, .ref sl, .ref tk, .null, .int 0])) :: ((e_A ca sl 5 2 (L.map Prod.fst) :: (((j_W0 ca cp u0 ++ [e_T t q, e_Z ca q 3 60]) ++ [e_Z ca tk 2 2]) ++ j_fl ca L)) ++ [e_A ca sv 5 6 []])) H := hP
  have hD : va_D A ((b, .inr (5, [.ref cp, .ref t, .ref sl, .ref tk, .null, .int 0])) :: ((e_A ca sl 5 2 (L.map Prod.fst) :: (((j_W0 ca cp u0 ++ [e_T t q, e_Z ca q 3 60]) ++ [e_Z ca tk 2 2]) ++ j_fl ca L)) ++ [e_A ca sv 5 6 []])) := hD
  have hP : va_P D vwCl ((b, .inr (5, [.ref cp, .ref t, .ref sl, .ref tk, .null, .int 0])) :: e_A ca sv 5 6 [] :: (e_A ca sl 5 2 (L.map Prod.fst) :: (((j_W0 ca cp u0 ++ [e_T t q, e_Z ca q 3 60]) ++ [e_Z ca tk 2 2]) ++ j_fl ca L))) H := j_mvP hP
  have hD : va_D A ((b, .inr (5, [.ref cp, .ref t, .ref sl, .ref tk, .null, .int 0])) :: e_A ca sv 5 6 [] :: (e_A ca sl 5 2 (L.map Prod.fst) :: (((j_W0 ca cp u0 ++ [e_T t q, e_Z ca q 3 60]) ++ [e_Z ca tk 2 2]) ++ j_fl ca L))) := j_mvD hD
  refine va_putF (D := D) (ci := 5) (v := .ref sv) (ty := .array (.object "FineScrip$Camp")) (C := RX5) (T := TX5) (N := 6) hx hb hts (m_lay 5 (by decide)) tyX5 tyX5_ok nmX5 hown hK hP hD hS 0 rfl rfl 4 (by decide) (hts _ jf_5_saved) (fun _ h9 => h9) rfl hin rfl (by decide +kernel) rfl rfl (Nat.le_of_ble_eq_true rfl) (show decode cX5_init 73 = .ok (.putfield 31, 3) by decide +kernel) (fun H locs hP hD hS => ?_)
  have hP : va_P D vwCl ((b, .inr (5, [.ref cp, .ref t, .ref sl, .ref tk, .ref sv, .int 0])) :: e_A ca sv 5 6 (([] : List (Nat × j_S0)).map Prod.fst) :: ((e_A ca sl 5 2 (L.map Prod.fst) :: (((j_W0 ca cp u0 ++ [e_T t q, e_Z ca q 3 60]) ++ [e_Z ca tk 2 2]) ++ j_fl ca L)) ++ j_fl ca [])) H := by rw [show j_fl ca [] = [] from rfl, List.append_nil]; exact hP
  have hD : va_D A ((b, .inr (5, [.ref cp, .ref t, .ref sl, .ref tk, .ref sv, .int 0])) :: e_A ca sv 5 6 (([] : List (Nat × j_S0)).map Prod.fst) :: ((e_A ca sl 5 2 (L.map Prod.fst) :: (((j_W0 ca cp u0 ++ [e_T t q, e_Z ca q 3 60]) ++ [e_Z ca tk 2 2]) ++ j_fl ca L)) ++ j_fl ca [])) := by rw [show j_fl ca [] = [] from rfl, List.append_nil]; exact hD
  refine lv_iconst (v := 0) hx hb (show decode cX5_init 76 = .ok (.iconst 0, 1) by decide +kernel) (by decide) ?_
  refine lv_istore_n (lv' := [(1, .int 0), (0, .ref b)]) hx hb (show decode cX5_init 77 = .ok (.istore_n 1, 1) by decide +kernel) rfl hl (by decide) rfl (fun ls hl => ?_)
  refine j_lpV (T := (e_A ca sl 5 2 (L.map Prod.fst) :: (((j_W0 ca cp u0 ++ [e_T t q, e_Z ca q 3 60]) ++ [e_Z ca tk 2 2]) ++ j_fl ca L))) (c0 := 113) (s0 := 700) (R := j_rm 329 1948 3) (t0 := 5) CF hE hA hK9 rfl rfl ⟨by decide, by decide⟩ ⟨by decide, by decide⟩ (fun V H locs ls eV oV hP hD hS hl => ?_) 6 [] H locs ls rfl (fun _ h => absurd h List.not_mem_nil) hP hD hS hl
  subst hQ
  exact j_end (u := (cp, u0, t, q, sl, tk, sv, L, V)) hx hb hr hlocks ⟨hu0, ⟨eL, oL⟩, ⟨eV, oV⟩⟩ hP hD hK9 hS (show decode cX5_init 103 = _ by decide +kernel)
