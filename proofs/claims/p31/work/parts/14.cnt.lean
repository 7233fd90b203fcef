/-! A STEP KEEPS THE COUNT, and so a run only adds to it. -/
theorem m_gk {b : Bool} {pc2 pc' : Nat} {pl2 pl' : List (Option Value)} {st2 st' : List Value} {M2 M' M : m_Mem} (h : m_go b pc2 pl2 st2 M2 = some (.inl (pc', pl', st', M'))) (e : M2 28 0 0 0 = M 28 0 0 0) : M' 28 0 0 0 = M 28 0 0 0 := by
  obtain ⟨_, rfl, rfl, rfl, rfl⟩ := m_go_s h
  exact e
theorem m_bk {α β : Type} {o : Option α} {f : α → Option β} {z : β} {P : Prop} (h : o.bind f = some z) (k : ∀ a, f a = some z → P) : P := by
  obtain ⟨a, _, h2⟩ := Option.bind_eq_some_iff.mp h
  exact k a h2
theorem m_set_28 {M : m_Mem} {a b c k : Nat} {v : Int32} (h : a ≠ 28) : m_set M a b c k v 28 0 0 0 = M 28 0 0 0 := by
  unfold m_set
  rw [if_neg (fun q => h q.1.symm)]
theorem m_wr_28 : ∀ {a : Nat}, m_wr a = true → a ≠ 28 := by
  intro a h e
  subst e
  exact absurd h (by decide)
set_option maxHeartbeats 4000000 in
theorem m_nxt_cnt {X pc pc' len : Nat} {i : Instr} {pl pl' : List (Option Value)} {st st' : List Value} {M M' : m_Mem} (hn : m_nxt X i len pc pl st M = some (.inl (pc', pl', st', M'))) : M' 28 0 0 0 = M 28 0 0 0 := by
  cases i with
  | dconst f =>
    match f, hn with
    | 0, hn => exact m_gk hn rfl
    | 1, hn => exact m_gk hn rfl
  | ldc2_w q =>
    have hn : (match m_look (m_KL (m_nth m_ownL X)) q with
        | some v => m_go (Nat.beq len 3) (pc + 3) pl (.long v :: st) M
        | none => (m_look (m_KD (m_nth m_ownL X)) q).bind fun v => m_go (Nat.beq len 3) (pc + 3) pl (.double v :: st) M) = some (.inl (pc', pl', st', M')) := hn
    cases h1 : m_look (m_KL (m_nth m_ownL X)) q with
    | some v =>
      rw [h1] at hn
      exact m_gk hn rfl
    | none =>
      rw [h1] at hn
      exact m_bk hn fun _ h => m_gk h rfl
  | putfield q =>
    obtain ⟨⟨a, f⟩, hf, hn⟩ := Option.bind_eq_some_iff.mp hn
    obtain ⟨hk, hci⟩ := m_FT_in _ hf
    have h24 := m_OK_lt a (m_ci_in a hci)
    exact m_bk hn fun _ h => m_bk h fun _ h => m_gk h (m_set_28 (by omega))
  | aastore =>
    refine m_bk hn fun _ h => m_bk h fun _ h => m_bk h fun _ h => ?_
    exact m_gk h (m_set_28 (by
      obtain ⟨hb, -⟩ := m_go_s h
      obtain ⟨hb, -⟩ := m_an hb
      obtain ⟨-, hb⟩ := m_an hb
      obtain ⟨hb, -⟩ := m_an hb
      rw [m_bq hb]
      decide))
  | iastore =>
    refine m_bk hn fun _ h => m_bk h fun _ h => m_bk h fun _ h => ?_
    exact m_gk h (m_set_28 (by
      obtain ⟨hb, -⟩ := m_go_s h
      obtain ⟨-, hb⟩ := m_an hb
      obtain ⟨-, hb⟩ := m_an hb
      obtain ⟨hw, -⟩ := m_an hb
      exact m_wr_28 hw))
  | bastore =>
    refine m_bk hn fun _ h => m_bk h fun _ h => m_bk h fun _ h => ?_
    exact m_gk h (m_set_28 (by
      obtain ⟨hb, -⟩ := m_go_s h
      obtain ⟨-, hb⟩ := m_an hb
      obtain ⟨-, hb⟩ := m_an hb
      obtain ⟨hw, -⟩ := m_an hb
      exact m_wr_28 hw))
  | castore =>
    refine m_bk hn fun _ h => m_bk h fun _ h => m_bk h fun _ h => ?_
    exact m_gk h (m_set_28 (by
      obtain ⟨hb, -⟩ := m_go_s h
      obtain ⟨-, hb⟩ := m_an hb
      obtain ⟨-, hb⟩ := m_an hb
      obtain ⟨hw, -⟩ := m_an hb
      exact m_wr_28 hw))
  | invokestatic q =>
    have hn : (match Nat.beq len 3 with
        | false => none
        | true => match m_look (m_CT (m_nth m_ownL X)) q with
          | some (Y, 1) => m_call X Y pc false st
          | some (Y, 2) => m_call X Y pc false st
          | some (_, _) => none
          | none => (m_look (m_NA (m_nth m_ownL X)) q).bind fun f => match f with
            | 1 => (m_pI st).bind fun n => (m_pI n.2).bind fun dp => (m_pR dp.2).bind fun y => (m_pI y.2).bind fun sp => (m_pR sp.2).bind fun x =>
              m_go (Nat.ble 1 (m_nth m_depL X) && Nat.ble (m_sz x.2) 8 && (n.1 == 5 && (dp.1 == 0 && sp.1 == 0)) && (Nat.beq (m_ka x.1) 11 && (Nat.beq (m_ka y.1) 11 && (m_dom 11 (m_kb x.1) (m_kc x.1) && m_dom 11 (m_kb y.1) (m_kc y.1))))) (pc + 3) pl x.2
                (m_cpy M 11 (m_kb y.1) (m_kc y.1) (m_kb x.1) (m_kc x.1))
            | 3 => (m_pD st).bind fun d => m_go (Nat.ble 1 (m_nth m_depL X) && Nat.ble (m_sz d.2) 8) (pc + 3) pl (.long d.1.toInt64 :: d.2) M
            | _ => none : Option m_Nx) = some (.inl (pc', pl', st', M')) := hn
    have hz9 := hn
    clear hn
    cases h3 : Nat.beq len 3 with
    | false => rw [h3] at hz9; cases hz9
    | true =>
      rw [h3] at hz9
      have e1 := m_len1 h3
      subst e1
      have hn := hz9
      cases h4 : m_look (m_CT (m_nth m_ownL X)) q with
      | some f =>
        rw [h4] at hn
        obtain ⟨Y, d⟩ := f
        match d, h4, hn with
        | 0, _, hn => cases hn
        | 1, _, hn => exact absurd hn (fun h => m_call_go h)
        | 2, _, hn => exact absurd hn (fun h => m_call_go h)
        | d + 3, _, hn => cases hn
      | none =>
        rw [h4] at hn
        obtain ⟨f, h5, hn⟩ := Option.bind_eq_some_iff.mp hn
        split at hn
        · refine m_bk hn fun _ h => m_bk h fun _ h => m_bk h fun _ h => m_bk h fun _ h => m_bk h fun _ h => ?_
          exact m_gk h (by unfold m_cpy; rw [if_neg (fun q => absurd q.1 (by decide))])
        · exact m_bk hn fun _ h => m_gk h rfl
        · cases hn
  | invokevirtual q =>
    have hn : (match Nat.beq len 3 with
        | false => none
        | true => (m_look (m_CT (m_nth m_ownL X)) q).bind fun f => match f.2 with
          | 0 => m_call X f.1 pc true st
          | _ => none : Option m_Nx) = some (.inl (pc', pl', st', M')) := hn
    cases h3 : Nat.beq len 3 with
    | false => rw [h3] at hn; cases hn
    | true =>
      rw [h3] at hn
      obtain ⟨f, h5, hn⟩ := Option.bind_eq_some_iff.mp hn
      split at hn
      · exact absurd hn (fun h => m_call_go h)
      · cases hn
  | new q =>
    have hn : (match (generalizing := false) st with
        | [] => (m_look m_TS (X * 65536 + pc)).bind fun E => some (.inr (.inr (.inr E)))
        | _ => none : Option m_Nx) = some (.inl (pc', pl', st', M')) := hn
    split at hn
    · obtain ⟨f, h5, hn⟩ := Option.bind_eq_some_iff.mp hn
      cases hn
    · cases hn
  | ireturn =>
    have hn : (match (generalizing := false) st with
        | [.int x] => match Nat.beq len 1 && m_nok (m_nth m_rsL X) x with
          | true => some (.inr (.inr (.inl (some (.int x)))))
          | false => none
        | _ => none : Option m_Nx) = some (.inl (pc', pl', st', M')) := hn
    split at hn
    · split at hn <;> cases hn
    · cases hn
  | lreturn =>
    have hn : (match (generalizing := false) st with
        | [.long x] => match Nat.beq len 1 && Nat.beq (m_nth m_rsL X) 3 with
          | true => some (.inr (.inr (.inl (some (.long x)))))
          | false => none
        | _ => none : Option m_Nx) = some (.inl (pc', pl', st', M')) := hn
    split at hn
    · split at hn <;> cases hn
    · cases hn
  | dreturn =>
    have hn : (match (generalizing := false) st with
        | [.double x] => match Nat.beq len 1 && Nat.beq (m_nth m_rsL X) 4 with
          | true => some (.inr (.inr (.inl (some (.double x)))))
          | false => none
        | _ => none : Option m_Nx) = some (.inl (pc', pl', st', M')) := hn
    split at hn
    · split at hn <;> cases hn
    · cases hn
  | return_ =>
    have hn : (match (generalizing := false) st with
        | [] => match Nat.beq len 1 && Nat.beq (m_nth m_rsL X) 5 with
          | true => some (.inr (.inr (.inl none)))
          | false => none
        | _ => none : Option m_Nx) = some (.inl (pc', pl', st', M')) := hn
    split at hn
    · split at hn <;> cases hn
    · cases hn
  | _ => first
    | exact m_no (α := Nat) (show (none : Option m_Nx) = some _ from hn)
    | exact m_gk hn rfl
    | exact m_bk hn fun _ h => m_gk h rfl
    | exact m_bk hn fun _ h => m_bk h fun _ h => m_gk h rfl
    | exact m_bk hn fun _ h => m_bk h fun _ h => m_bk h fun _ h => m_gk h rfl
theorem m_nxt_cnt2 {X pc pc' len : Nat} {i : Instr} {pl pl' : List (Option Value)} {st st' : List Value} {M M' : m_Mem} (hn : m_nxt X i len pc pl st M = some (.inl (pc', pl', st', M'))) : m_cnt M' = m_cnt M := by
  unfold m_cnt
  rw [m_nxt_cnt hn]
theorem m_tx_s {X pc : Nat} {E : String} {M M1 : m_Mem} {o : Option Value ⊕ String} (h : m_tx X pc E M = some (o, M1)) : ∃ k, m_hk (X * 65536 + pc) E = some k ∧ o = .inl (some (.int k)) ∧ M1 = m_bump M ∧ m_cnt (m_bump M) = m_cnt M + 1 := by
  unfold m_tx at h
  split at h
  · cases h
  · rename_i k hk
    split at h
    · rename_i hb
      cases h
      exact ⟨k, hk, rfl, rfl, m_bump_c (of_decide_eq_true hb)⟩
    · cases h
theorem m_run_cnt : ∀ (n X pc : Nat) (pl : List (Option Value)) (st : List Value) (M M1 : m_Mem) (o : Option Value ⊕ String), m_run n X pc pl st M = some (o, M1) → m_cnt M ≤ m_cnt M1 := by
  intro n
  induction n with
  | zero => intro X pc pl st M M1 o h; unfold m_run at h; cases h
  | succ n ih =>
    intro X pc pl st M M1 o h
    unfold m_run at h
    cases h1 : m_dec X pc with
    | none => rw [h1] at h; cases h
    | some q =>
      obtain ⟨i, len⟩ := q
      rw [h1] at h
      dsimp only at h
      cases h2 : m_nxt X i len pc pl st M with
      | none => rw [h2] at h; cases h
      | some z =>
        rw [h2] at h
        match z, h, h2 with
        | .inl (pc', pl', st', M'), h, h2 =>
          rw [← m_nxt_cnt2 h2]
          exact ih _ _ _ _ _ _ _ h
        | .inr (.inl (Y, as, pc', st')), h, h2 =>
          dsimp only at h
          cases h3 : m_run n Y 0 (m_ent as (m_nth m_mlL Y)) [] M with
          | none => rw [h3] at h; cases h
          | some w =>
            rw [h3] at h
            match w, h, h3 with
            | (.inl v, M'), h, h3 => exact Nat.le_trans (ih _ _ _ _ _ _ _ h3) (ih _ _ _ _ _ _ _ h)
            | (.inr E, M'), h, h3 =>
              obtain ⟨k, -, -, rfl, hc⟩ := m_tx_s h
              rw [hc]
              exact Nat.le_succ_of_le (ih _ _ _ _ _ _ _ h3)
        | .inr (.inr (.inl v)), h, h2 => cases h; exact Nat.le_refl _
        | .inr (.inr (.inr E)), h, h2 => cases h; exact Nat.le_refl _
