/-! THE CONSTRUCTOR of a camp. -/
theorem j_up (L : List Nat) (q : Nat) : va_up (fun i => L[i]?) L.length (some q) = fun i => (L ++ [q])[i]? := by
  funext i
  unfold va_up
  by_cases h : i = L.length
  · subst h
    simp
  · rw [if_neg h]
    by_cases h2 : i < L.length
    · rw [List.getElem?_append_left h2]
    · have h3 : (L ++ [q]).length = L.length + 1 := by simp
      show L[i]? = (L ++ [q])[i]?
      rw [List.getElem?_eq_none (by omega), List.getElem?_eq_none (by omega)]
def e_D (a : Nat) : Nat × va_E := (a, .inr (3, [.int 0, .int 0, .int (-1), .int 0, .int 0, .int 0, .int 0, .int 0]))
def e_C (a : Nat) : Nat × va_E := (a, .inr (1, [.int 800, .int (-1), .int 0, .int 0, .int 0, .int 0]))
def e_G (a : Nat) : Nat × va_E := (a, .inr (4, [.int 0, .int 0, .int 0]))
/-- an array of references -/
def e_A (ca : Nat → ClassId) (a t n : Nat) (L : List Nat) : Nat × va_E := (a, .inl (ca t, n, .inr (.inr (.inr (.inr (fun i => L[i]?))))))
theorem j_lastx {α : Type} (a b c d e f x : α) (T : List α) : (a :: b :: c :: d :: e :: f :: (T ++ [x]))[T.length + 6]? = some x := by
  show (T ++ [x])[T.length]? = some x
  simp
section CAMP
variable {p : Program} {l : Launch} {e : Env} {R : Room} {s : State} {m : MethodId} {args : Array Value} {below : List Frame} {meth : Method} {c : Code} {Q : State → Prop} {D : va_G} {ca : Nat → ClassId} {A : Nat → Prop}

set_option maxHeartbeats 4000000 in
set_option maxRecDepth 20000 in
/-- the loop that makes the diggers -/
theorem j_lpD (CF : CallFix p m c cX0_init 2 s args lw_g RX0) (hE : j_env D ca s) (hA : ∀ q, s.heap.size ≤ q → A q) {tys : List (ClassId × FieldType)} (hK : va_K D vwCl tys s) (ht : tys[0]? = some (ca 6, .object "FineScrip$Digger")) {b q0 : Nat} {fs : List Value} (hfs : fs[0]? = some (.ref q0)) {x1 x2 x3 x4 x5 : Nat × va_E} {T : va_W} {c0 s0 : Nat} (hRf : 2 ≤ R.frames ∧ 80 ≤ R.locals) (hRc : c0 + 8 ≤ R.cells ∧ s0 + 64 ≤ R.slots)
    (kk : ∀ (L : List Nat) (H : Heap) (locs : List Loc) (ls : Array Slot), L.length = 8 → va_P D vwCl ((b, .inr (0, fs)) :: e_A ca q0 6 8 L :: x2 :: x3 :: x4 :: x5 :: (T ++ L.map e_D)) H → va_D A ((b, .inr (0, fs)) :: e_A ca q0 6 8 L :: x2 :: x3 :: x4 :: x5 :: (T ++ L.map e_D)) → va_S A s.heap H locs → lv_has ls 2 [(0, .ref b)] → W p l e R s m args below meth c H locs (c0 + 8) (s0 + 64) Q (F0 m 101 ls [])) :
    ∀ (n : Nat) (L : List Nat) (H : Heap) (locs : List Loc) (ls : Array Slot), L.length + n = 8 → va_P D vwCl ((b, .inr (0, fs)) :: e_A ca q0 6 8 L :: x2 :: x3 :: x4 :: x5 :: (T ++ L.map e_D)) H → va_D A ((b, .inr (0, fs)) :: e_A ca q0 6 8 L :: x2 :: x3 :: x4 :: x5 :: (T ++ L.map e_D)) → va_S A s.heap H locs → lv_has ls 2 [(1, .int (nI L.length)), (0, .ref b)] →
      W p l e R s m args below meth c H locs (c0 + L.length) (s0 + 8 * L.length) Q (F0 m 76 ls []) := by
  obtain ⟨hx, hb, hml, hown, hts⟩ := id CF
  intro n
  induction n with
  | zero =>
    intro L H locs ls hn hP hD hS hl
    have hL : L.length = 8 := by omega
    refine lv_iload_n hx hb (show decode cX0_init 76 = .ok (.iload_n 1, 1) by decide +kernel) rfl (lv_at hl 0 rfl) ?_
    refine lv_bipush (v := 8) hx hb (show decode cX0_init 77 = .ok (.bipush 8, 2) by decide +kernel) (by decide) ?_
    refine lv_icmp_ge (tgt := 101) hx hb (show decode cX0_init 79 = .ok (.if_icmp .ge 22, 3) by decide +kernel) (by decide) (fun hc => ?_) (fun hc => ?_)
    · have := kk L H locs ls hL hP hD hS (lv_sub hl [1] rfl)
      rw [hL]
      exact this
    · exact absurd (nI_le (by omega) (by omega) : nI 8 ≤ nI L.length) (by first | exact hc | exact Int32.not_le.mpr hc)
  | succ n ih =>
    intro L H locs ls hn hP hD hS hl
    have hL : L.length < 8 := by omega
    refine lv_iload_n hx hb (show decode cX0_init 76 = .ok (.iload_n 1, 1) by decide +kernel) rfl (lv_at hl 0 rfl) ?_
    refine lv_bipush (v := 8) hx hb (show decode cX0_init 77 = .ok (.bipush 8, 2) by decide +kernel) (by decide) ?_
    refine lv_icmp_ge (tgt := 101) hx hb (show decode cX0_init 79 = .ok (.if_icmp .ge 22, 3) by decide +kernel) (by decide) (fun hc => ?_) (fun hc => ?_)
    · exact absurd hc (nI_ge hL (by decide) : ¬ nI 8 ≤ nI L.length)
    · refine lv_aload_n hx hb (show decode cX0_init 82 = .ok (.aload_n 0, 1) by decide +kernel) rfl (lv_at hl 1 rfl) ?_
      refine va_get (D := D) (ci := 0) (v := .ref q0) (C := RX0) (T := TX0) (N := 10) hx hb hts (m_lay 0 (by decide)) hown hK hP 0 rfl rfl 0 (by decide) (hts _ jf_0_diggers) (fun _ h9 => h9) hfs (show decode cX0_init 83 = .ok (.getfield 11, 3) by decide +kernel) ?_
      refine lv_iload_n hx hb (show decode cX0_init 86 = .ok (.iload_n 1, 1) by decide +kernel) rfl (lv_at hl 0 rfl) ?_
      refine va_new (D := D) (ci := 3) (fs := j_df 3) (C := RX3) (T := TX3) (N := 8) hx hb hts (m_lay 3 (by decide)) tyX3 tyX3_ok hown (hts _ jl_03) (hts _ js_3) (hts _ ji_3) hK hP hD hS hA rfl (fun j hj => by rcases (show j = 0 ∨ j = 1 ∨ j = 2 ∨ j = 3 ∨ j = 4 ∨ j = 5 ∨ j = 6 ∨ j = 7 by omega) with rfl | rfl | rfl | rfl | rfl | rfl | rfl | rfl <;> rfl) (by omega) (by omega) (show decode cX0_init 87 = .ok (.new 9, 3) by decide +kernel) (fun q H1 hP hD hS => ?_)
      refine lv_dup hx hb (show decode cX0_init 90 = .ok (.dup, 1) by decide +kernel) rfl ?_
      refine j_callN (W0 := (b, .inr (0, fs)) :: e_A ca q0 6 8 L :: x2 :: x3 :: x4 :: x5 :: (T ++ L.map e_D)) CF hE (j_digger l D ca) (by decide +kernel) rfl rfl rfl rfl (by decide) jm_3 ji_3 (List.mem_of_getElem? (i := 1) rfl) (show decode cX0_init 91 = .ok (.invokespecial 38, 3) by decide +kernel) ⟨hRf.1, Nat.le_trans (show 8 + (m_ml 42 + 11) + 40 * 1 ≤ 80 by decide +kernel) hRf.2⟩ (by omega) hl.1 (show 3 ≤ 8 by decide) hP hD hS hA (fun u H2 locs2 _ hP hD _ hS => ?_)
      have hP : va_P D vwCl ((b, .inr (0, fs)) :: e_A ca q0 6 8 L :: x2 :: x3 :: x4 :: x5 :: ((T ++ L.map e_D) ++ [e_D q])) H2 := hP
      have hD : va_D A ((b, .inr (0, fs)) :: e_A ca q0 6 8 L :: x2 :: x3 :: x4 :: x5 :: ((T ++ L.map e_D) ++ [e_D q])) := hD
      have hz : vp_in (nI L.length) 8 := vp_in_nI hL (by decide)
      refine va_astq (D := D) hx hb hK hP hD hS 1 0 ((T ++ L.map e_D).length + 6) 3 rfl ht (j_lastx _ _ _ _ _ _ _ _) (show vwCl[3]? = some (RX3, TX3, 8) from rfl) hz (show decode cX0_init 94 = .ok (.aastore, 1) by decide +kernel) (fun H3 locs3 hP hD hS => ?_)
      have eT : (T ++ L.map e_D) ++ [e_D q] = T ++ (L ++ [q]).map e_D := by rw [List.map_append, List.append_assoc]; rfl
      have eU : va_up (fun i => L[i]?) (nI L.length).toNatClampNeg (some q) = fun i => (L ++ [q])[i]? := by rw [nI_clamp (by omega), j_up]
      rw [eT, eU] at hP hD
      have hP : va_P D vwCl ((b, .inr (0, fs)) :: e_A ca q0 6 8 (L ++ [q]) :: x2 :: x3 :: x4 :: x5 :: (T ++ (L ++ [q]).map e_D)) H3 := hP
      have hD : va_D A ((b, .inr (0, fs)) :: e_A ca q0 6 8 (L ++ [q]) :: x2 :: x3 :: x4 :: x5 :: (T ++ (L ++ [q]).map e_D)) := hD
      have hlen : (L ++ [q]).length = L.length + 1 := by simp
      refine lv_iinc (v := nI (L ++ [q]).length) (lv' := [(1, .int (nI (L ++ [q]).length)), (0, .ref b)]) hx hb (show decode cX0_init 95 = .ok (.iinc 1 1, 3) by decide +kernel) hl (k := 0) rfl (by rw [hlen]; exact nI_1 _) (by decide) rfl (fun ls hl => ?_)
      refine lv_goto (tgt := 76) hx hb (show decode cX0_init 98 = .ok (.goto (-22), 3) by decide +kernel) (by decide) ?_
      have := ih (L ++ [q]) H3 locs3 ls (by omega) hP hD hS hl
      rw [hlen] at this
      have e1 : c0 + L.length + 1 + 0 = c0 + (L.length + 1) := by omega
      have e2 : s0 + 8 * L.length + 8 + 0 = s0 + 8 * (L.length + 1) := by omega
      rw [e1, e2]
      exact this

set_option maxHeartbeats 4000000 in
set_option maxRecDepth 20000 in
/-- the loop that makes the claims -/
theorem j_lpC (CF : CallFix p m c cX0_init 2 s args lw_g RX0) (hE : j_env D ca s) (hA : ∀ q, s.heap.size ≤ q → A q) {tys : List (ClassId × FieldType)} (hK : va_K D vwCl tys s) (ht : tys[1]? = some (ca 7, .object "FineScrip$Claim")) {b q0 : Nat} {fs : List Value} (hfs : fs[1]? = some (.ref q0)) {x1 x2 x3 x4 x5 : Nat × va_E} {T : va_W} {c0 s0 : Nat} (hRf : 2 ≤ R.frames ∧ 80 ≤ R.locals) (hRc : c0 + 10 ≤ R.cells ∧ s0 + 60 ≤ R.slots)
    (kk : ∀ (L : List Nat) (H : Heap) (locs : List Loc) (ls : Array Slot), L.length = 10 → va_P D vwCl ((b, .inr (0, fs)) :: x1 :: e_A ca q0 7 10 L :: x3 :: x4 :: x5 :: (T ++ L.map e_C)) H → va_D A ((b, .inr (0, fs)) :: x1 :: e_A ca q0 7 10 L :: x3 :: x4 :: x5 :: (T ++ L.map e_C)) → va_S A s.heap H locs → lv_has ls 2 [(0, .ref b)] → W p l e R s m args below meth c H locs (c0 + 10) (s0 + 60) Q (F0 m 128 ls [])) :
    ∀ (n : Nat) (L : List Nat) (H : Heap) (locs : List Loc) (ls : Array Slot), L.length + n = 10 → va_P D vwCl ((b, .inr (0, fs)) :: x1 :: e_A ca q0 7 10 L :: x3 :: x4 :: x5 :: (T ++ L.map e_C)) H → va_D A ((b, .inr (0, fs)) :: x1 :: e_A ca q0 7 10 L :: x3 :: x4 :: x5 :: (T ++ L.map e_C)) → va_S A s.heap H locs → lv_has ls 2 [(1, .int (nI L.length)), (0, .ref b)] →
      W p l e R s m args below meth c H locs (c0 + L.length) (s0 + 6 * L.length) Q (F0 m 103 ls []) := by
  obtain ⟨hx, hb, hml, hown, hts⟩ := id CF
  intro n
  induction n with
  | zero =>
    intro L H locs ls hn hP hD hS hl
    have hL : L.length = 10 := by omega
    refine lv_iload_n hx hb (show decode cX0_init 103 = .ok (.iload_n 1, 1) by decide +kernel) rfl (lv_at hl 0 rfl) ?_
    refine lv_bipush (v := 10) hx hb (show decode cX0_init 104 = .ok (.bipush 10, 2) by decide +kernel) (by decide) ?_
    refine lv_icmp_ge (tgt := 128) hx hb (show decode cX0_init 106 = .ok (.if_icmp .ge 22, 3) by decide +kernel) (by decide) (fun hc => ?_) (fun hc => ?_)
    · have := kk L H locs ls hL hP hD hS (lv_sub hl [1] rfl)
      rw [hL]
      exact this
    · exact absurd (nI_le (by omega) (by omega) : nI 10 ≤ nI L.length) (by first | exact hc | exact Int32.not_le.mpr hc)
  | succ n ih =>
    intro L H locs ls hn hP hD hS hl
    have hL : L.length < 10 := by omega
    refine lv_iload_n hx hb (show decode cX0_init 103 = .ok (.iload_n 1, 1) by decide +kernel) rfl (lv_at hl 0 rfl) ?_
    refine lv_bipush (v := 10) hx hb (show decode cX0_init 104 = .ok (.bipush 10, 2) by decide +kernel) (by decide) ?_
    refine lv_icmp_ge (tgt := 128) hx hb (show decode cX0_init 106 = .ok (.if_icmp .ge 22, 3) by decide +kernel) (by decide) (fun hc => ?_) (fun hc => ?_)
    · exact absurd hc (nI_ge hL (by decide) : ¬ nI 10 ≤ nI L.length)
    · refine lv_aload_n hx hb (show decode cX0_init 109 = .ok (.aload_n 0, 1) by decide +kernel) rfl (lv_at hl 1 rfl) ?_
      refine va_get (D := D) (ci := 0) (v := .ref q0) (C := RX0) (T := TX0) (N := 10) hx hb hts (m_lay 0 (by decide)) hown hK hP 0 rfl rfl 1 (by decide) (hts _ jf_0_claims) (fun _ h9 => h9) hfs (show decode cX0_init 110 = .ok (.getfield 19, 3) by decide +kernel) ?_
      refine lv_iload_n hx hb (show decode cX0_init 113 = .ok (.iload_n 1, 1) by decide +kernel) rfl (lv_at hl 0 rfl) ?_
      refine va_new (D := D) (ci := 1) (fs := j_df 1) (C := RX1) (T := TX1) (N := 6) hx hb hts (m_lay 1 (by decide)) tyX1 tyX1_ok hown (hts _ jl_01) (hts _ js_1) (hts _ ji_1) hK hP hD hS hA rfl (fun j hj => by rcases (show j = 0 ∨ j = 1 ∨ j = 2 ∨ j = 3 ∨ j = 4 ∨ j = 5 by omega) with rfl | rfl | rfl | rfl | rfl | rfl <;> rfl) (by omega) (by omega) (show decode cX0_init 114 = .ok (.new 17, 3) by decide +kernel) (fun q H1 hP hD hS => ?_)
      refine lv_dup hx hb (show decode cX0_init 117 = .ok (.dup, 1) by decide +kernel) rfl ?_
      refine j_callN (W0 := (b, .inr (0, fs)) :: x1 :: e_A ca q0 7 10 L :: x3 :: x4 :: x5 :: (T ++ L.map e_C)) CF hE (j_claim l D ca) (by decide +kernel) rfl rfl rfl rfl (by decide) jm_1 ji_1 (List.mem_of_getElem? (i := 2) rfl) (show decode cX0_init 118 = .ok (.invokespecial 39, 3) by decide +kernel) ⟨hRf.1, Nat.le_trans (show 8 + (m_ml 29 + 11) + 40 * 1 ≤ 80 by decide +kernel) hRf.2⟩ (by omega) hl.1 (show 3 ≤ 8 by decide) hP hD hS hA (fun u H2 locs2 _ hP hD _ hS => ?_)
      have hP : va_P D vwCl ((b, .inr (0, fs)) :: x1 :: e_A ca q0 7 10 L :: x3 :: x4 :: x5 :: ((T ++ L.map e_C) ++ [e_C q])) H2 := hP
      have hD : va_D A ((b, .inr (0, fs)) :: x1 :: e_A ca q0 7 10 L :: x3 :: x4 :: x5 :: ((T ++ L.map e_C) ++ [e_C q])) := hD
      have hz : vp_in (nI L.length) 10 := vp_in_nI hL (by decide)
      refine va_astq (D := D) hx hb hK hP hD hS 2 1 ((T ++ L.map e_C).length + 6) 1 rfl ht (j_lastx _ _ _ _ _ _ _ _) (show vwCl[1]? = some (RX1, TX1, 6) from rfl) hz (show decode cX0_init 121 = .ok (.aastore, 1) by decide +kernel) (fun H3 locs3 hP hD hS => ?_)
      have eT : (T ++ L.map e_C) ++ [e_C q] = T ++ (L ++ [q]).map e_C := by rw [List.map_append, List.append_assoc]; rfl
      have eU : va_up (fun i => L[i]?) (nI L.length).toNatClampNeg (some q) = fun i => (L ++ [q])[i]? := by rw [nI_clamp (by omega), j_up]
      rw [eT, eU] at hP hD
      have hP : va_P D vwCl ((b, .inr (0, fs)) :: x1 :: e_A ca q0 7 10 (L ++ [q]) :: x3 :: x4 :: x5 :: (T ++ (L ++ [q]).map e_C)) H3 := hP
      have hD : va_D A ((b, .inr (0, fs)) :: x1 :: e_A ca q0 7 10 (L ++ [q]) :: x3 :: x4 :: x5 :: (T ++ (L ++ [q]).map e_C)) := hD
      have hlen : (L ++ [q]).length = L.length + 1 := by simp
      refine lv_iinc (v := nI (L ++ [q]).length) (lv' := [(1, .int (nI (L ++ [q]).length)), (0, .ref b)]) hx hb (show decode cX0_init 122 = .ok (.iinc 1 1, 3) by decide +kernel) hl (k := 0) rfl (by rw [hlen]; exact nI_1 _) (by decide) rfl (fun ls hl => ?_)
      refine lv_goto (tgt := 103) hx hb (show decode cX0_init 125 = .ok (.goto (-22), 3) by decide +kernel) (by decide) ?_
      have := ih (L ++ [q]) H3 locs3 ls (by omega) hP hD hS hl
      rw [hlen] at this
      have e1 : c0 + L.length + 1 + 0 = c0 + (L.length + 1) := by omega
      have e2 : s0 + 6 * L.length + 6 + 0 = s0 + 6 * (L.length + 1) := by omega
      rw [e1, e2]
      exact this

set_option maxHeartbeats 4000000 in
set_option maxRecDepth 20000 in
/-- the loop that makes the bars -/
theorem j_lpG (CF : CallFix p m c cX0_init 2 s args lw_g RX0) (hE : j_env D ca s) (hA : ∀ q, s.heap.size ≤ q → A q) {tys : List (ClassId × FieldType)} (hK : va_K D vwCl tys s) (ht : tys[2]? = some (ca 8, .object "FineScrip$Gold")) {b q0 : Nat} {fs : List Value} (hfs : fs[2]? = some (.ref q0)) {x1 x2 x3 x4 x5 : Nat × va_E} {T : va_W} {c0 s0 : Nat} (hRf : 2 ≤ R.frames ∧ 80 ≤ R.locals) (hRc : c0 + 12 ≤ R.cells ∧ s0 + 36 ≤ R.slots)
    (kk : ∀ (L : List Nat) (H : Heap) (locs : List Loc) (ls : Array Slot), L.length = 12 → va_P D vwCl ((b, .inr (0, fs)) :: x1 :: x2 :: e_A ca q0 8 12 L :: x4 :: x5 :: (T ++ L.map e_G)) H → va_D A ((b, .inr (0, fs)) :: x1 :: x2 :: e_A ca q0 8 12 L :: x4 :: x5 :: (T ++ L.map e_G)) → va_S A s.heap H locs → lv_has ls 2 [(0, .ref b)] → W p l e R s m args below meth c H locs (c0 + 12) (s0 + 36) Q (F0 m 155 ls [])) :
    ∀ (n : Nat) (L : List Nat) (H : Heap) (locs : List Loc) (ls : Array Slot), L.length + n = 12 → va_P D vwCl ((b, .inr (0, fs)) :: x1 :: x2 :: e_A ca q0 8 12 L :: x4 :: x5 :: (T ++ L.map e_G)) H → va_D A ((b, .inr (0, fs)) :: x1 :: x2 :: e_A ca q0 8 12 L :: x4 :: x5 :: (T ++ L.map e_G)) → va_S A s.heap H locs → lv_has ls 2 [(1, .int (nI L.length)), (0, .ref b)] →
      W p l e R s m args below meth c H locs (c0 + L.length) (s0 + 3 * L.length) Q (F0 m 130 ls []) := by
  obtain ⟨hx, hb, hml, hown, hts⟩ := id CF
  intro n
  induction n with
  | zero =>
    intro L H locs ls hn hP hD hS hl
    have hL : L.length = 12 := by omega
    refine lv_iload_n hx hb (show decode cX0_init 130 = .ok (.iload_n 1, 1) by decide +kernel) rfl (lv_at hl 0 rfl) ?_
    refine lv_bipush (v := 12) hx hb (show decode cX0_init 131 = .ok (.bipush 12, 2) by decide +kernel) (by decide) ?_
    refine lv_icmp_ge (tgt := 155) hx hb (show decode cX0_init 133 = .ok (.if_icmp .ge 22, 3) by decide +kernel) (by decide) (fun hc => ?_) (fun hc => ?_)
    · have := kk L H locs ls hL hP hD hS (lv_sub hl [1] rfl)
      rw [hL]
      exact this
    · exact absurd (nI_le (by omega) (by omega) : nI 12 ≤ nI L.length) (by first | exact hc | exact Int32.not_le.mpr hc)
  | succ n ih =>
    intro L H locs ls hn hP hD hS hl
    have hL : L.length < 12 := by omega
    refine lv_iload_n hx hb (show decode cX0_init 130 = .ok (.iload_n 1, 1) by decide +kernel) rfl (lv_at hl 0 rfl) ?_
    refine lv_bipush (v := 12) hx hb (show decode cX0_init 131 = .ok (.bipush 12, 2) by decide +kernel) (by decide) ?_
    refine lv_icmp_ge (tgt := 155) hx hb (show decode cX0_init 133 = .ok (.if_icmp .ge 22, 3) by decide +kernel) (by decide) (fun hc => ?_) (fun hc => ?_)
    · exact absurd hc (nI_ge hL (by decide) : ¬ nI 12 ≤ nI L.length)
    · refine lv_aload_n hx hb (show decode cX0_init 136 = .ok (.aload_n 0, 1) by decide +kernel) rfl (lv_at hl 1 rfl) ?_
      refine va_get (D := D) (ci := 0) (v := .ref q0) (C := RX0) (T := TX0) (N := 10) hx hb hts (m_lay 0 (by decide)) hown hK hP 0 rfl rfl 2 (by decide) (hts _ jf_0_bars) (fun _ h9 => h9) hfs (show decode cX0_init 137 = .ok (.getfield 25, 3) by decide +kernel) ?_
      refine lv_iload_n hx hb (show decode cX0_init 140 = .ok (.iload_n 1, 1) by decide +kernel) rfl (lv_at hl 0 rfl) ?_
      refine va_new (D := D) (ci := 4) (fs := j_df 4) (C := RX4) (T := TX4) (N := 3) hx hb hts (m_lay 4 (by decide)) tyX4 tyX4_ok hown (hts _ jl_04) (hts _ js_4) (hts _ ji_4) hK hP hD hS hA rfl (fun j hj => by rcases (show j = 0 ∨ j = 1 ∨ j = 2 by omega) with rfl | rfl | rfl <;> rfl) (by omega) (by omega) (show decode cX0_init 141 = .ok (.new 23, 3) by decide +kernel) (fun q H1 hP hD hS => ?_)
      refine lv_dup hx hb (show decode cX0_init 144 = .ok (.dup, 1) by decide +kernel) rfl ?_
      refine j_callN (W0 := (b, .inr (0, fs)) :: x1 :: x2 :: e_A ca q0 8 12 L :: x4 :: x5 :: (T ++ L.map e_G)) CF hE (j_gold l D ca) (by decide +kernel) rfl rfl rfl rfl (by decide) jm_4 ji_4 (List.mem_of_getElem? (i := 0) rfl) (show decode cX0_init 145 = .ok (.invokespecial 29, 3) by decide +kernel) ⟨hRf.1, Nat.le_trans (show 8 + (m_ml 48 + 11) + 40 * 1 ≤ 80 by decide +kernel) hRf.2⟩ (by omega) hl.1 (show 3 ≤ 8 by decide) hP hD hS hA (fun u H2 locs2 _ hP hD _ hS => ?_)
      have hP : va_P D vwCl ((b, .inr (0, fs)) :: x1 :: x2 :: e_A ca q0 8 12 L :: x4 :: x5 :: ((T ++ L.map e_G) ++ [e_G q])) H2 := hP
      have hD : va_D A ((b, .inr (0, fs)) :: x1 :: x2 :: e_A ca q0 8 12 L :: x4 :: x5 :: ((T ++ L.map e_G) ++ [e_G q])) := hD
      have hz : vp_in (nI L.length) 12 := vp_in_nI hL (by decide)
      refine va_astq (D := D) hx hb hK hP hD hS 3 2 ((T ++ L.map e_G).length + 6) 4 rfl ht (j_lastx _ _ _ _ _ _ _ _) (show vwCl[4]? = some (RX4, TX4, 3) from rfl) hz (show decode cX0_init 148 = .ok (.aastore, 1) by decide +kernel) (fun H3 locs3 hP hD hS => ?_)
      have eT : (T ++ L.map e_G) ++ [e_G q] = T ++ (L ++ [q]).map e_G := by rw [List.map_append, List.append_assoc]; rfl
      have eU : va_up (fun i => L[i]?) (nI L.length).toNatClampNeg (some q) = fun i => (L ++ [q])[i]? := by rw [nI_clamp (by omega), j_up]
      rw [eT, eU] at hP hD
      have hP : va_P D vwCl ((b, .inr (0, fs)) :: x1 :: x2 :: e_A ca q0 8 12 (L ++ [q]) :: x4 :: x5 :: (T ++ (L ++ [q]).map e_G)) H3 := hP
      have hD : va_D A ((b, .inr (0, fs)) :: x1 :: x2 :: e_A ca q0 8 12 (L ++ [q]) :: x4 :: x5 :: (T ++ (L ++ [q]).map e_G)) := hD
      have hlen : (L ++ [q]).length = L.length + 1 := by simp
      refine lv_iinc (v := nI (L ++ [q]).length) (lv' := [(1, .int (nI (L ++ [q]).length)), (0, .ref b)]) hx hb (show decode cX0_init 149 = .ok (.iinc 1 1, 3) by decide +kernel) hl (k := 0) rfl (by rw [hlen]; exact nI_1 _) (by decide) rfl (fun ls hl => ?_)
      refine lv_goto (tgt := 130) hx hb (show decode cX0_init 152 = .ok (.goto (-22), 3) by decide +kernel) (by decide) ?_
      have := ih (L ++ [q]) H3 locs3 ls (by omega) hP hD hS hl
      rw [hlen] at this
      have e1 : c0 + L.length + 1 + 0 = c0 + (L.length + 1) := by omega
      have e2 : s0 + 3 * L.length + 3 + 0 = s0 + 3 * (L.length + 1) := by omega
      rw [e1, e2]
      exact this

end CAMP
