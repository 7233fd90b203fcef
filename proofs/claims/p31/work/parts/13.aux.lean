/-! FOR THE WHOLE RUN: where code ends, entries, agreement of the tables, the count. -/
theorem m_dec_u1 {c : ByteArray} {pc : Nat} (hn : ¬ pc < c.size) : (Reader.u1 : Decoder Nat) c pc = .error (HasTruncated.truncated pc) := by
  show (dite (pc < c.size) _ _ : Decoder Nat) c pc = _
  rw [dif_neg hn]
  rfl
theorem m_dec_lt {c : ByteArray} {pc : Nat} {r : Instr × Nat} (h : decode c pc = .ok r) : pc < c.size := by
  refine Decidable.byContradiction fun hn => ?_
  unfold decode Reader.runAt Decoder.instr at h
  simp only [ReaderT.run, StateT.run, bind, ReaderT.bind, StateT.bind, Except.bind, m_dec_u1 hn] at h
  cases h
theorem m_Xs_lt : ∀ X ∈ m_Xs, X < 117 := by decide +kernel
theorem m_cszs : (List.range 117).all (fun X => Nat.blt (m_code X).size 60000) = true := by decide +kernel
theorem m_dec_b {X pc : Nat} {r : Instr × Nat} (hX : X < 117) (h : decode (m_code X) pc = .ok r) : pc < 60000 :=
  Nat.lt_trans (m_dec_lt h) (Nat.blt_eq.mp (List.all_eq_true.mp m_cszs X (List.mem_range.mpr hX)))
theorem m_agree {X : Nat} (hX : X ∈ m_Xs) : m_nth m_naL X = m_na X ∧ m_nth m_depL X = m_dep X ∧ m_nth m_mlL X = m_ml X ∧ m_nth m_ownL X = m_own X := by
  have h := List.all_eq_true.mp m_tabs X (List.mem_range.mpr (m_Xs_lt X hX))
  obtain ⟨h1, h⟩ := m_an h
  obtain ⟨h2, h⟩ := m_an h
  obtain ⟨h3, h4⟩ := m_an h
  exact ⟨m_bq h1, m_bq h2, m_bq h3, m_bq h4⟩
theorem m_row_ok {X : Nat} (hX : X ∈ m_Xs) : plainName (m_nm X).cls = true ∧ (m_nm X).cls = m_cn (m_nth m_ownL X) ∧ ((m_nm X).cls ≠ "java/lang/invoke/MethodHandle" ∧ (m_nm X).cls ≠ "java/lang/invoke/VarHandle") ∧ (parseMethodDescriptor (m_nm X).desc).map (fun d => d.parameters.length) = some (m_nth m_naL X - (1 - m_sta X)) ∧ m_nth m_mlL X ≤ 21 ∧ 1 ≤ m_nth m_naL X + m_sta X := by
  obtain ⟨e1, e2, e3, e4⟩ := m_agree hX
  have h := List.all_eq_true.mp m_rows X hX
  unfold m_rok at h
  obtain ⟨h1, h⟩ := m_an h
  obtain ⟨h2, h⟩ := m_an h
  obtain ⟨h3, h⟩ := m_an h
  obtain ⟨h4, h⟩ := m_an h
  obtain ⟨h5, h6⟩ := m_an h
  rw [e1, e3, e4]
  exact ⟨h1, of_decide_eq_true h2, of_decide_eq_true h3, of_decide_eq_true h4, Nat.le_of_ble_eq_true h5, Nat.le_of_ble_eq_true h6⟩
theorem m_recvs : m_Xs.all (fun X => Nat.beq (m_sta X) 1 || (Nat.blt (m_own X) 6 && Nat.beq (m_ci (m_kd (m_own X))) (m_own X) && Nat.blt (m_kd (m_own X)) 24)) = true := by decide +kernel
theorem m_recv_ok {X : Nat} (hX : X ∈ m_Xs) (hs : m_sta X = 0) : m_nth m_ownL X < 6 ∧ m_ci (m_kd (m_nth m_ownL X)) = m_nth m_ownL X ∧ m_kd (m_nth m_ownL X) < 24 := by
  have h := List.all_eq_true.mp m_recvs X hX
  rw [(m_agree hX).2.2.2]
  rw [hs] at h
  obtain ⟨h12, h3⟩ := m_an (show (Nat.blt (m_own X) 6 && Nat.beq (m_ci (m_kd (m_own X))) (m_own X) && Nat.blt (m_kd (m_own X)) 24) = true from h)
  obtain ⟨h1, h2⟩ := m_an h12
  exact ⟨Nat.blt_eq.mp h1, m_bq h2, Nat.blt_eq.mp h3⟩
-- entries
theorem m_nones_len : ∀ n, (m_nones n).length = n
  | 0 => rfl
  | n + 1 => by show (m_nones n).length + 1 = n + 1; rw [m_nones_len n]
theorem m_nones_lg : ∀ (n j : Nat) (v : Value), m_lg (m_nones n) j = some v → False
  | 0, j, v, h => by cases h
  | n + 1, 0, v, h => by cases h
  | n + 1, j + 1, v, h => m_nones_lg n j v h
theorem m_ent_len : ∀ (as : List Value) (n : Nat), m_sz as ≤ n → (m_ent as n).length = n
  | [], n, _ => m_nones_len n
  | v :: t, n, h => by
    rw [m_sz_c] at h
    cases v with
    | long x =>
      have h : m_sz t + 2 ≤ n := h
      show (m_ent t (n - 2)).length + 1 + 1 = n
      rw [m_ent_len t (n - 2) (by omega)]
      omega
    | double x =>
      have h : m_sz t + 2 ≤ n := h
      show (m_ent t (n - 2)).length + 1 + 1 = n
      rw [m_ent_len t (n - 2) (by omega)]
      omega
    | _ =>
      have h : m_sz t + 1 ≤ n := h
      show (m_ent t (n - 1)).length + 1 = n
      rw [m_ent_len t (n - 1) (by omega)]
      omega
theorem m_ent_lg (g : m_G) : ∀ (as : List Value) (n i j : Nat) (v : Value), m_lg (m_ent as n) j = some v → (i + j, m_tv g v) ∈ lv_args i (as.map (m_tv g))
  | [], n, i, j, v, h => (m_nones_lg n j v h).elim
  | w :: t, n, i, j, v, h => by
    have key : ∀ d : Nat, (if (m_tv g w).category = 2 then i + 2 else i + 1) = i + d → ∀ j', j = j' + d → (∃ n', m_lg (m_ent t n') j' = some v) → (i + j, m_tv g v) ∈ lv_args i ((w :: t).map (m_tv g)) := by
      intro d hd j' hj ⟨n', h'⟩
      have ih := m_ent_lg g t n' (i + d) j' v h'
      show (i + j, m_tv g v) ∈ (i, m_tv g w) :: lv_args (if (m_tv g w).category = 2 then i + 2 else i + 1) (t.map (m_tv g))
      rw [hd]
      refine List.mem_cons_of_mem _ ?_
      have e : i + j = i + d + j' := by omega
      rw [e]
      exact ih
    have hz : ∀ u : Value, j = 0 → some w = some v → (i + j, m_tv g v) ∈ lv_args i ((w :: t).map (m_tv g)) := by
      intro _ hj hw
      cases hw
      subst hj
      exact List.mem_cons_self
    cases w with
    | long x =>
      match j, h with
      | 0, h => exact hz (.int 0) rfl h
      | 1, h => cases h
      | j' + 2, h => exact key 2 rfl j' rfl ⟨_, h⟩
    | double x =>
      match j, h with
      | 0, h => exact hz (.int 0) rfl h
      | 1, h => cases h
      | j' + 2, h => exact key 2 rfl j' rfl ⟨_, h⟩
    | int x =>
      match j, h with
      | 0, h => exact hz (.int 0) rfl h
      | j' + 1, h => exact key 1 rfl j' rfl ⟨_, h⟩
    | float x =>
      match j, h with
      | 0, h => exact hz (.int 0) rfl h
      | j' + 1, h => exact key 1 rfl j' rfl ⟨_, h⟩
    | ref x =>
      match j, h with
      | 0, h => exact hz (.int 0) rfl h
      | j' + 1, h => exact key 1 rfl j' rfl ⟨_, h⟩
    | null =>
      match j, h with
      | 0, h => exact hz (.int 0) rfl h
      | j' + 1, h => exact key 1 rfl j' rfl ⟨_, h⟩
    | _ =>
      match j, h with
      | 0, h => exact hz (.int 0) rfl h
      | j' + 1, h => exact key 1 rfl j' rfl ⟨_, h⟩
theorem m_sl_len (g : m_G) : ∀ as : List Value, (lg_sl (as.map (m_tv g))).length = m_sz as
  | [] => rfl
  | v :: t => by
    have ih := m_sl_len g t
    unfold lg_sl at ih ⊢
    rw [List.map_cons, List.flatMap_cons, List.length_append, ih, m_sz_c]
    cases v <;> show _ + _ = _ + _ <;> rw [Nat.add_comm] <;> rfl
-- the count of what was caught
def m_dc (M M1 : m_Mem) : Nat := m_cnt M1 - m_cnt M
theorem m_bump_o (M : m_Mem) : ∀ a b c k, a ≠ 28 → m_bump M a b c k = M a b c k := by
  intro a b c k h
  unfold m_bump m_set
  rw [if_neg (fun q => h q.1)]
theorem m_bump_c {M : m_Mem} (h : 0 ≤ M 28 0 0 0 ∧ M 28 0 0 0 < 100000) : m_cnt (m_bump M) = m_cnt M + 1 := by
  unfold m_cnt
  have e : m_bump M 28 0 0 0 = M 28 0 0 0 + 1 := by
    unfold m_bump m_set
    rw [if_pos ⟨rfl, rfl, rfl, rfl⟩]
  rw [e]
  obtain ⟨h1, h2⟩ := h
  generalize M 28 0 0 0 = x at h1 h2 ⊢
  have h1 : (0 : Int32).toInt ≤ x.toInt := Int32.le_iff_toInt_le.mp h1
  have h2 : x.toInt < (100000 : Int32).toInt := Int32.lt_iff_toInt_lt.mp h2
  have e0 : (0 : Int32).toInt = 0 := by decide
  have e1 : (100000 : Int32).toInt = 100000 := by decide
  have e2 : (x + 1).toInt = x.toInt + 1 := by
    rw [Int32.toInt_add]
    have : (1 : Int32).toInt = 1 := by decide
    rw [this]
    rw [Int.bmod_eq_of_le (by omega) (by omega)]
  show (x + 1).toInt.toNat = x.toInt.toNat + 1
  rw [e2]
  omega
theorem m_bump_Mst {g : m_G} {M : m_Mem} (h : m_Mst g M) : m_Mst g (m_bump M) := by
  obtain ⟨h1, h2, h3, h4, h5⟩ := h
  refine ⟨fun j hj => ?_, fun j hj => ?_, fun i hi => ?_, ?_, h5⟩
  · rw [m_bump_o _ _ _ _ _ (by decide)]; exact h1 j hj
  · rw [m_bump_o _ _ _ _ _ (by decide)]; exact h2 j hj
  · rw [m_bump_o _ _ _ _ _ (by decide)]; exact h3 i hi
  · rw [m_bump_o _ _ _ _ _ (by decide)]; exact h4
theorem m_DL_n28 : ∀ q ∈ m_DL, q.1 ≠ 28 := by decide +kernel
theorem m_bump_P {g : m_G} {M : m_Mem} {H : Heap} (h : m_P g M H) : m_P g (m_bump M) H := by
  have e : m_ws g (m_bump M) = m_ws g M := by
    unfold m_ws m_wl
    refine List.map_congr_left fun q hq => ?_
    have h28 : q.1 ≠ 28 := by
      intro e
      have := m_DL_n28 q hq
      exact this e
    have e2 : m_bump M q.1 q.2.1 q.2.2 = M q.1 q.2.1 q.2.2 := by
      funext k
      exact m_bump_o _ _ _ _ _ h28
    rw [e2]
  show va_P g.2.1 vwCl (m_ws g (m_bump M)) H
  rw [e]
  exact h
