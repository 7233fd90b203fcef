/-! WHAT A STEP that leaves the frame is: a call, a return, a throw. -/
abbrev m_cinfo (X Y pc : Nat) (virt : Bool) (st as : List Value) (pc' : Nat) (st' : List Value) : Prop :=
  pc' = pc + 3 ∧ st = as.reverse ++ st' ∧ as.length = m_nth m_naL Y ∧ m_nth m_depL Y < m_nth m_depL X ∧ m_sz as ≤ m_nth m_mlL Y ∧ Nat.ble (m_sz st') 8 = true ∧ (virt = true → ∃ x t, as = .ref x :: t ∧ m_ka x = m_kd (m_nth m_ownL Y) ∧ m_dom (m_ka x) (m_kb x) (m_kc x) = true)
def m_reti (X : Nat) (i : Instr) (v : Option Value) : Prop :=
  (i = .ireturn ∧ ∃ x, v = some (.int x) ∧ m_nok (m_nth m_rsL X) x = true) ∨ (i = .lreturn ∧ m_nth m_rsL X = 3 ∧ ∃ x, v = some (.long x)) ∨ (i = .dreturn ∧ m_nth m_rsL X = 4 ∧ ∃ x, v = some (.double x)) ∨ (i = .return_ ∧ m_nth m_rsL X = 5 ∧ v = none)
def m_kind (X : Nat) (i : Instr) (len pc : Nat) (st : List Value) (z : m_Nx) : Prop := match z with
  | .inl _ => True
  | .inr (.inl (Y, as, pc', st')) => ∃ (k d : Nat) (virt : Bool), len = 3 ∧ m_look (m_CT (m_nth m_ownL X)) k = some (Y, d) ∧ m_cinfo X Y pc virt st as pc' st' ∧ ((d = 0 ∧ virt = true ∧ i = .invokevirtual k) ∨ ((d = 1 ∨ d = 2) ∧ virt = false ∧ i = .invokestatic k))
  | .inr (.inr (.inl v)) => len = 1 ∧ st = v.toList ∧ m_reti X i v
  | .inr (.inr (.inr E)) => st = [] ∧ m_look m_TS (X * 65536 + pc) = some E
theorem m_call_k {X Y pc : Nat} {virt : Bool} {st : List Value} {z : m_Nx} (h : m_call X Y pc virt st = some z) : ∃ as pc' st', z = .inr (.inl (Y, as, pc', st')) ∧ m_cinfo X Y pc virt st as pc' st' := by
  unfold m_call at h
  cases h1 : m_take (m_nth m_naL Y) st with
  | none => rw [h1] at h; cases h
  | some q =>
    obtain ⟨as, r⟩ := q
    rw [h1] at h
    dsimp only at h
    obtain ⟨e1, e2⟩ := m_take_s _ _ _ _ h1
    cases h2 : (Nat.blt (m_nth m_depL Y) (m_nth m_depL X) && Nat.ble (m_sz as.reverse) (m_nth m_mlL Y) && Nat.ble (m_sz r) 8) with
    | false => rw [h2] at h; cases h
    | true =>
      rw [h2] at h
      dsimp only at h
      obtain ⟨h2, h5⟩ := m_an h2
      obtain ⟨h3, h4⟩ := m_an h2
      have h3 := Nat.blt_eq.mp h3
      have h4 := Nat.le_of_ble_eq_true h4
      cases virt with
      | false =>
        cases h
        exact ⟨_, _, _, rfl, rfl, by rw [List.reverse_reverse]; exact e1, by rw [List.length_reverse]; exact e2, h3, h4, h5, fun q => by cases q⟩
      | true =>
        dsimp only at h
        cases h6 : m_pR as.reverse with
        | none => rw [h6] at h; cases h
        | some q =>
          obtain ⟨x, t⟩ := q
          rw [h6] at h
          dsimp only at h
          cases h7 : (Nat.beq (m_ka x) (m_kd (m_nth m_ownL Y)) && m_dom (m_ka x) (m_kb x) (m_kc x)) with
          | false => rw [h7] at h; cases h
          | true =>
            rw [h7] at h
            cases h
            obtain ⟨h8, h9⟩ := m_an h7
            exact ⟨_, _, _, rfl, rfl, by rw [List.reverse_reverse]; exact e1, by rw [List.length_reverse]; exact e2, h3, h4, h5, fun _ => ⟨x, t, m_pR_s h6, m_bq h8, h9⟩⟩
theorem m_gkk {X len pc : Nat} {i : Instr} {st : List Value} {z : m_Nx} {b : Bool} {pc2 : Nat} {pl2 : List (Option Value)} {st2 : List Value} {M2 : m_Mem} (h : m_go b pc2 pl2 st2 M2 = some z) : m_kind X i len pc st z := by
  unfold m_go at h
  cases b with
  | false => cases h
  | true => cases h; trivial
set_option maxHeartbeats 4000000 in
theorem m_nxt_kind {X pc len : Nat} {i : Instr} {pl : List (Option Value)} {st : List Value} {M : m_Mem} {z : m_Nx} (hn : m_nxt X i len pc pl st M = some z) : m_kind X i len pc st z := by
  cases i with
  | dconst f =>
    match f, hn with
    | 0, hn => exact m_gkk hn
    | 1, hn => exact m_gkk hn
  | ldc2_w q =>
    have hn : (match m_look (m_KL (m_nth m_ownL X)) q with
        | some v => m_go (Nat.beq len 3) (pc + 3) pl (.long v :: st) M
        | none => (m_look (m_KD (m_nth m_ownL X)) q).bind fun v => m_go (Nat.beq len 3) (pc + 3) pl (.double v :: st) M) = some z := hn
    cases h1 : m_look (m_KL (m_nth m_ownL X)) q with
    | some v =>
      rw [h1] at hn
      exact m_gkk hn
    | none =>
      rw [h1] at hn
      exact m_bk hn fun _ h => m_gkk h
  | invokestatic q =>
    have hn : (match Nat.beq len 3 with
        | false => none
        | true => match m_look (m_CT (m_nth m_ownL X)) q with
          | some (Y, 1) => m_call X Y pc false st
          | some (Y, 2) => m_call X Y pc false st
          | some (_, _) => none
          | none => (m_look (m_NA (m_nth m_ownL X)) q).bind fun f => match f with
            | 1 => (m_pI st).bind fun n => (m_pI n.2).bind fun dp => (m_pR dp.2).bind fun y => (m_pI y.2).bind fun sp => (m_pR sp.2).bind fun x =>
              m_go (Nat.ble 1 (m_nth m_depL X) && Nat.ble (m_sz x.2) 8 && (n.1 == 5 && (dp.1 == 0 && sp.1 == 0)) && (Nat.beq (m_ka x.1) 11 && (Nat.beq (m_ka y.1) 11 && (m_dom 11 (m_kb x.1) (m_kc x.1) && m_dom 11 (m_kb y.1) (m_kc y.1))))) (pc + 3) pl x.2
                (m_cpy M 11 (m_kb y.1) (m_kc y.1) (m_kb x.1) (m_kc x.1))
            | 3 => (m_pD st).bind fun d => m_go (Nat.ble 1 (m_nth m_depL X) && Nat.ble (m_sz d.2) 8) (pc + 3) pl (.long d.1.toInt64 :: d.2) M
            | _ => none : Option m_Nx) = some z := hn
    have hz9 := hn
    clear hn
    cases h3 : Nat.beq len 3 with
    | false => rw [h3] at hz9; cases hz9
    | true =>
      rw [h3] at hz9
      have e1 := m_bq h3
      have hn := hz9
      cases h4 : m_look (m_CT (m_nth m_ownL X)) q with
      | some f =>
        rw [h4] at hn
        obtain ⟨Y, d⟩ := f
        match d, h4, hn with
        | 0, _, hn => cases hn
        | 1, h4, hn =>
          obtain ⟨as, pc', st', rfl, hc⟩ := m_call_k hn
          exact ⟨q, 1, false, e1, h4, hc, Or.inr ⟨Or.inl rfl, rfl, rfl⟩⟩
        | 2, h4, hn =>
          obtain ⟨as, pc', st', rfl, hc⟩ := m_call_k hn
          exact ⟨q, 2, false, e1, h4, hc, Or.inr ⟨Or.inr rfl, rfl, rfl⟩⟩
        | d + 3, _, hn => cases hn
      | none =>
        rw [h4] at hn
        obtain ⟨f, h5, hn⟩ := Option.bind_eq_some_iff.mp hn
        split at hn
        · exact m_bk hn fun _ h => m_bk h fun _ h => m_bk h fun _ h => m_bk h fun _ h => m_bk h fun _ h => m_gkk h
        · exact m_bk hn fun _ h => m_gkk h
        · cases hn
  | invokevirtual q =>
    have hn : (match Nat.beq len 3 with
        | false => none
        | true => (m_look (m_CT (m_nth m_ownL X)) q).bind fun f => match f.2 with
          | 0 => m_call X f.1 pc true st
          | _ => none : Option m_Nx) = some z := hn
    cases h3 : Nat.beq len 3 with
    | false => rw [h3] at hn; cases hn
    | true =>
      rw [h3] at hn
      obtain ⟨⟨Y, d⟩, h5, hn⟩ := Option.bind_eq_some_iff.mp hn
      match d, h5, hn with
      | 0, h5, hn =>
        obtain ⟨as, pc', st', rfl, hc⟩ := m_call_k hn
        exact ⟨q, 0, true, m_bq h3, h5, hc, Or.inl ⟨rfl, rfl, rfl⟩⟩
      | d + 1, _, hn => cases hn
  | new q =>
    have hn : (match (generalizing := false) st with
        | [] => (m_look m_TS (X * 65536 + pc)).bind fun E => some (.inr (.inr (.inr E)))
        | _ => none : Option m_Nx) = some z := hn
    split at hn
    · obtain ⟨f, h5, hn⟩ := Option.bind_eq_some_iff.mp hn
      cases hn
      exact ⟨rfl, h5⟩
    · cases hn
  | ireturn =>
    have hn : (match (generalizing := false) st with
        | [.int x] => match Nat.beq len 1 && m_nok (m_nth m_rsL X) x with
          | true => some (.inr (.inr (.inl (some (.int x)))))
          | false => none
        | _ => none : Option m_Nx) = some z := hn
    split at hn
    · split at hn
      · cases hn
        exact ⟨m_bq (m_an (by assumption)).1, rfl, Or.inl ⟨rfl, _, rfl, (m_an (by assumption)).2⟩⟩
      · cases hn
    · cases hn
  | lreturn =>
    have hn : (match (generalizing := false) st with
        | [.long x] => match Nat.beq len 1 && Nat.beq (m_nth m_rsL X) 3 with
          | true => some (.inr (.inr (.inl (some (.long x)))))
          | false => none
        | _ => none : Option m_Nx) = some z := hn
    split at hn
    · split at hn
      · cases hn
        exact ⟨m_bq (m_an (by assumption)).1, rfl, Or.inr (Or.inl ⟨rfl, m_bq (m_an (by assumption)).2, _, rfl⟩)⟩
      · cases hn
    · cases hn
  | dreturn =>
    have hn : (match (generalizing := false) st with
        | [.double x] => match Nat.beq len 1 && Nat.beq (m_nth m_rsL X) 4 with
          | true => some (.inr (.inr (.inl (some (.double x)))))
          | false => none
        | _ => none : Option m_Nx) = some z := hn
    split at hn
    · split at hn
      · cases hn
        exact ⟨m_bq (m_an (by assumption)).1, rfl, Or.inr (Or.inr (Or.inl ⟨rfl, m_bq (m_an (by assumption)).2, _, rfl⟩))⟩
      · cases hn
    · cases hn
  | return_ =>
    have hn : (match (generalizing := false) st with
        | [] => match Nat.beq len 1 && Nat.beq (m_nth m_rsL X) 5 with
          | true => some (.inr (.inr (.inl none)))
          | false => none
        | _ => none : Option m_Nx) = some z := hn
    split at hn
    · split at hn
      · cases hn
        exact ⟨m_bq (m_an (by assumption)).1, rfl, Or.inr (Or.inr (Or.inr ⟨rfl, m_bq (m_an (by assumption)).2, rfl⟩))⟩
      · cases hn
    · cases hn
  | _ => first
    | exact m_no (α := Nat) (show (none : Option m_Nx) = some _ from hn)
    | exact m_gkk hn
    | exact m_bk hn fun _ h => m_gkk h
    | exact m_bk hn fun _ h => m_bk h fun _ h => m_gkk h
    | exact m_bk hn fun _ h => m_bk h fun _ h => m_bk h fun _ h => m_gkk h
theorem m_run_thr : ∀ (n X pc : Nat) (pl : List (Option Value)) (st : List Value) (M M1 : m_Mem) (E : String), X ∈ m_Xs → m_run n X pc pl st M = some (.inr E, M1) → m_hh X = [] := by
  intro n
  induction n with
  | zero => intro X pc pl st M M1 E hX h; unfold m_run at h; cases h
  | succ n ih =>
    intro X pc pl st M M1 E hX h
    unfold m_run at h
    cases h1 : m_dec X pc with
    | none => rw [h1] at h; cases h
    | some q =>
      obtain ⟨i, len⟩ := q
      rw [h1] at h
      dsimp only at h
      cases h2 : m_nxt X i len pc pl st M with
      | none => rw [h2] at h; cases h
      | some z =>
        rw [h2] at h
        match z, h, h2 with
        | .inl (pc', pl', st', M'), h, h2 => exact ih _ _ _ _ _ _ _ hX h
        | .inr (.inl (Y, as, pc', st')), h, h2 =>
          dsimp only at h
          cases h3 : m_run n Y 0 (m_ent as (m_nth m_mlL Y)) [] M with
          | none => rw [h3] at h; cases h
          | some w =>
            rw [h3] at h
            match w, h, h3 with
            | (.inl v, M'), h, h3 => exact ih _ _ _ _ _ _ _ hX h
            | (.inr E, M'), h, h3 =>
              obtain ⟨k, -, e, -, -⟩ := m_tx_s h
              cases e
        | .inr (.inr (.inl v)), h, h2 => cases h
        | .inr (.inr (.inr E')), h, h2 =>
          have hk := m_nxt_kind h2
          obtain ⟨ik, is, ic, tx, -, -, -, -, -, -, hh, -⟩ := m_TS_ok hk.2 (Nat.lt_trans (m_dec_b (m_Xs_lt X hX) (m_dec_s h1)) (by decide))
          exact hh
