/-! THE VALUE of a run, whatever its length: equations of its steps. -/
noncomputable def m_E (X pc : Nat) (pl : List (Option Value)) (st : List Value) (M : m_Mem) : Option m_R :=
  @dite _ (∃ n r, m_run n X pc pl st M = some r) (Classical.propDecidable _) (fun h => some (Classical.choose (Classical.choose_spec h))) (fun _ => none)
theorem m_E_run {n X pc : Nat} {pl : List (Option Value)} {st : List Value} {M : m_Mem} {r : m_R} (h : m_run n X pc pl st M = some r) : m_E X pc pl st M = some r := by
  have hh : ∃ n r, m_run n X pc pl st M = some r := ⟨n, r, h⟩
  unfold m_E
  rw [dif_pos hh]
  have h2 := Classical.choose_spec (Classical.choose_spec hh)
  have e1 := m_run_le (k := Classical.choose hh) h
  have e2 := m_run_le (k := n) h2
  rw [Nat.add_comm] at e2
  exact e2.symm.trans e1
theorem m_E_inv {X pc : Nat} {pl : List (Option Value)} {st : List Value} {M : m_Mem} {r : m_R} (h : m_E X pc pl st M = some r) : ∃ n, m_run n X pc pl st M = some r := by
  unfold m_E at h
  split at h
  · rename_i hh
    have h2 := Classical.choose_spec (Classical.choose_spec hh)
    exact ⟨_, h2.trans h⟩
  · cases h
theorem m_E_ext {X pc X' pc' : Nat} {pl pl' : List (Option Value)} {st st' : List Value} {M M' : m_Mem} (h : ∀ r, (∃ n, m_run n X pc pl st M = some r) ↔ ∃ n, m_run n X' pc' pl' st' M' = some r) : m_E X pc pl st M = m_E X' pc' pl' st' M' := by
  cases h1 : m_E X pc pl st M with
  | some r =>
    obtain ⟨n, hn⟩ := (h r).mp (m_E_inv h1)
    exact (m_E_run hn).symm
  | none =>
    cases h2 : m_E X' pc' pl' st' M' with
    | none => rfl
    | some r =>
      obtain ⟨n, hn⟩ := (h r).mpr (m_E_inv h2)
      rw [m_E_run hn] at h1
      cases h1
theorem m_E_go {X pc len pc' : Nat} {i : Instr} {pl pl' : List (Option Value)} {st st' : List Value} {M M' : m_Mem} (hd : m_dec X pc = some (i, len)) (hn : m_nxt X i len pc pl st M = some (.inl (pc', pl', st', M'))) : m_E X pc pl st M = m_E X pc' pl' st' M' := by
  apply m_E_ext
  intro r
  constructor
  · rintro ⟨n, h⟩
    cases n with
    | zero => unfold m_run at h; cases h
    | succ n =>
      unfold m_run at h
      rw [hd] at h
      dsimp only at h
      rw [hn] at h
      exact ⟨n, h⟩
  · rintro ⟨n, h⟩
    refine ⟨n + 1, ?_⟩
    unfold m_run
    rw [hd]
    dsimp only
    rw [hn]
    exact h
theorem m_E_ret {X pc len : Nat} {i : Instr} {pl : List (Option Value)} {st : List Value} {M : m_Mem} {v : Option Value} (hd : m_dec X pc = some (i, len)) (hn : m_nxt X i len pc pl st M = some (.inr (.inr (.inl v)))) : m_E X pc pl st M = some (.inl v, M) := by
  apply m_E_run (n := 1)
  unfold m_run
  rw [hd]
  dsimp only
  rw [hn]
theorem m_E_thr {X pc len : Nat} {i : Instr} {pl : List (Option Value)} {st : List Value} {M : m_Mem} {E : String} (hd : m_dec X pc = some (i, len)) (hn : m_nxt X i len pc pl st M = some (.inr (.inr (.inr E)))) : m_E X pc pl st M = some (.inr E, M) := by
  apply m_E_run (n := 1)
  unfold m_run
  rw [hd]
  dsimp only
  rw [hn]
/-- a call of Y -/
noncomputable def m_cl (Y : Nat) (as : List Value) (M : m_Mem) : Option m_R := m_E Y 0 (m_ent as (m_nth m_mlL Y)) [] M
/-- what X does with a call's outcome -/
noncomputable def m_cE (o : Option m_R) (X pc : Nat) (pl : List (Option Value)) (st : List Value) : Option m_R := match o with
  | none => none
  | some (.inl v, M') => m_E X pc pl (v.toList ++ st) M'
  | some (.inr E, M') => m_tx X pc E M'
theorem m_cE_i (v : Value) (M' : m_Mem) (X pc : Nat) (pl : List (Option Value)) (st : List Value) : m_cE (some (.inl (some v), M')) X pc pl st = m_E X pc pl (v :: st) M' := rfl
theorem m_cE_v (M' : m_Mem) (X pc : Nat) (pl : List (Option Value)) (st : List Value) : m_cE (some (.inl none, M')) X pc pl st = m_E X pc pl st M' := rfl
theorem m_cE_ite (c : Prop) (d : Decidable c) (a b : Option m_R) (X pc : Nat) (pl : List (Option Value)) (st : List Value) : m_cE (if c then a else b) X pc pl st = if c then m_cE a X pc pl st else m_cE b X pc pl st := by
  split <;> rfl
theorem m_E_ite (c : Prop) (d : Decidable c) (X a b : Nat) (pl : List (Option Value)) (st : List Value) (M : m_Mem) : m_E X (if c then a else b) pl st M = if c then m_E X a pl st M else m_E X b pl st M := by
  split <;> rfl
theorem m_cE_x {X pc : Nat} {pl : List (Option Value)} {st : List Value} {E : String} {k : Int32} {M : m_Mem} (hk : m_hk (X * 65536 + pc) E = some k) (h : 0 ≤ M 28 0 0 0 ∧ M 28 0 0 0 < 100000) : m_cE (some (.inr E, M)) X pc pl st = some (.inl (some (.int k)), m_bump M) := by
  show m_tx X pc E M = _
  unfold m_tx
  rw [hk]
  dsimp only
  rw [decide_eq_true h]
theorem m_E_call {X pc len Y pc' : Nat} {i : Instr} {pl : List (Option Value)} {st st' as : List Value} {M : m_Mem} (hd : m_dec X pc = some (i, len)) (hn : m_nxt X i len pc pl st M = some (.inr (.inl (Y, as, pc', st')))) : m_E X pc pl st M = m_cE (m_cl Y as M) X pc' pl st' := by
  have key : ∀ n, m_run (n + 1) X pc pl st M = match m_run n Y 0 (m_ent as (m_nth m_mlL Y)) [] M with
        | none => none
        | some (.inl v, M') => m_run n X pc' pl (v.toList ++ st') M'
        | some (.inr E, M') => m_tx X pc' E M' := by
    intro n
    rw [m_run]
    rw [hd]
    dsimp only
    rw [hn]
    rfl
  cases h1 : m_cl Y as M with
  | none =>
    show _ = none
    cases h2 : m_E X pc pl st M with
    | none => rfl
    | some r =>
      obtain ⟨n, hr⟩ := m_E_inv h2
      cases n with
      | zero => unfold m_run at hr; cases hr
      | succ n =>
        rw [key] at hr
        cases h3 : m_run n Y 0 (m_ent as (m_nth m_mlL Y)) [] M with
        | none => rw [h3] at hr; cases hr
        | some w =>
          have h4 : m_cl Y as M = some w := m_E_run h3
          rw [h4] at h1
          cases h1
  | some w =>
    obtain ⟨k, hk⟩ := m_E_inv h1
    have hk2 : ∀ j, m_run (k + j) Y 0 (m_ent as (m_nth m_mlL Y)) [] M = some w := fun j => m_run_le hk
    have hk3 : ∀ n r, m_run n Y 0 (m_ent as (m_nth m_mlL Y)) [] M = some r → r = w := by
      intro n r hr
      have h5 : m_cl Y as M = some r := m_E_run hr
      rw [h1] at h5
      exact (Option.some.inj h5).symm
    match w, h1, hk, hk2, hk3 with
    | (.inr E, M'), h1, hk, hk2, hk3 =>
      show _ = m_tx X pc' E M'
      cases h6 : m_tx X pc' E M' with
      | some r =>
        apply m_E_run (n := k + 1)
        rw [key, hk]
        exact h6
      | none =>
        cases h2 : m_E X pc pl st M with
        | none => rfl
        | some r =>
          obtain ⟨n, hr⟩ := m_E_inv h2
          cases n with
          | zero => unfold m_run at hr; cases hr
          | succ n =>
            rw [key] at hr
            cases h3 : m_run n Y 0 (m_ent as (m_nth m_mlL Y)) [] M with
            | none => rw [h3] at hr; cases hr
            | some w2 =>
              have h7 := hk3 _ _ h3
              subst h7
              rw [h3] at hr
              dsimp only at hr
              rw [h6] at hr
              cases hr
    | (.inl v, M'), h1, hk, hk2, hk3 =>
      show _ = m_E X pc' pl (v.toList ++ st') M'
      apply m_E_ext
      intro r
      constructor
      · rintro ⟨n, hr⟩
        cases n with
        | zero => unfold m_run at hr; cases hr
        | succ n =>
          rw [key] at hr
          cases h3 : m_run n Y 0 (m_ent as (m_nth m_mlL Y)) [] M with
          | none => rw [h3] at hr; cases hr
          | some w2 =>
            have h7 := hk3 _ _ h3
            subst h7
            rw [h3] at hr
            exact ⟨n, hr⟩
      · rintro ⟨n, hr⟩
        refine ⟨(k + n) + 1, ?_⟩
        rw [key, hk2 n]
        show m_run (k + n) X pc' pl (v.toList ++ st') M' = some r
        rw [Nat.add_comm]
        exact m_run_le hr
-- steps that touch the memory, by the code of a place
theorem m_E_get {X pc k a f b c : Nat} {v : Value} {pl : List (Option Value)} {st : List Value} {M : m_Mem} (hd : m_dec X pc = some (.getfield k, 3)) (hf : m_look (m_FT (m_nth m_ownL X)) k = some (a, f)) (hv : m_fv a b c f (M a b c f) = v) (hm : m_dom a b c = true) : m_E X pc pl (.ref (m_lc a b c) :: st) M = m_E X (pc + 3) pl (v :: st) M := by
  refine m_E_go hd ?_
  show (m_look (m_FT (m_nth m_ownL X)) k).bind (fun f => (m_pR (.ref (m_lc a b c) :: st)).bind fun q => m_go (Nat.beq 3 3 && (Nat.beq (m_ka q.1) f.1 && m_dom f.1 (m_kb q.1) (m_kc q.1))) (pc + 3) pl (m_fv f.1 (m_kb q.1) (m_kc q.1) f.2 (M f.1 (m_kb q.1) (m_kc q.1) f.2) :: q.2) M) = _
  rw [hf]
  show m_go (Nat.beq 3 3 && (Nat.beq (m_ka (m_lc a b c)) a && m_dom a (m_kb (m_lc a b c)) (m_kc (m_lc a b c)))) (pc + 3) pl (m_fv a (m_kb (m_lc a b c)) (m_kc (m_lc a b c)) f (M a (m_kb (m_lc a b c)) (m_kc (m_lc a b c)) f) :: st) M = _
  rw [m_ka_s, m_kb_s, m_kc_s, hm, hv, Nat.beq_refl, Nat.beq_refl]
  rfl
theorem m_E_put {X pc k a f b c : Nat} {v : Int32} {pl : List (Option Value)} {st : List Value} {M : m_Mem} (hd : m_dec X pc = some (.putfield k, 3)) (hf : m_look (m_FT (m_nth m_ownL X)) k = some (a, f)) (hv : m_nok (m_fn a f) v = true) (hm : m_dom a b c = true) : m_E X pc pl (.int v :: .ref (m_lc a b c) :: st) M = m_E X (pc + 3) pl st (m_set M a b c f v) := by
  refine m_E_go hd ?_
  show (m_look (m_FT (m_nth m_ownL X)) k).bind (fun f => (m_pI (.int v :: .ref (m_lc a b c) :: st)).bind fun v => (m_pR v.2).bind fun q => m_go (Nat.beq 3 3 && (Nat.beq (m_ka q.1) f.1 && m_dom f.1 (m_kb q.1) (m_kc q.1)) && m_nok (m_fn f.1 f.2) v.1) (pc + 3) pl q.2 (m_set M f.1 (m_kb q.1) (m_kc q.1) f.2 v.1)) = _
  rw [hf]
  show m_go (Nat.beq 3 3 && (Nat.beq (m_ka (m_lc a b c)) a && m_dom a (m_kb (m_lc a b c)) (m_kc (m_lc a b c))) && m_nok (m_fn a f) v) (pc + 3) pl st (m_set M a (m_kb (m_lc a b c)) (m_kc (m_lc a b c)) f v) = _
  rw [m_ka_s, m_kb_s, m_kc_s, hm, hv, Nat.beq_refl, Nat.beq_refl]
  rfl
theorem m_in_n {n N : Nat} (h : n < N) (hN : N < 2 ^ 31) : m_in (nI n) N = true := by
  unfold m_in
  rw [nI_toInt (by omega)]
  exact decide_eq_true (by omega)
theorem m_E_iald {X pc a b c n : Nat} {pl : List (Option Value)} {st : List Value} {M : m_Mem} (hd : m_dec X pc = some (.iaload, 1)) (ht : m_at a = 1) (hl : m_al a < 2 ^ 31) (h26 : a ≠ 26) (hm : m_dom a b c = true) (hn : n < m_al a) : m_E X pc pl (.int (nI n) :: .ref (m_lc a b c) :: st) M = m_E X (pc + 1) pl (.int (M a b c n) :: st) M := by
  refine m_E_go hd ?_
  show m_go (Nat.beq 1 1 && (Nat.beq (m_at (m_ka (m_lc a b c))) 1 && (m_dom (m_ka (m_lc a b c)) (m_kb (m_lc a b c)) (m_kc (m_lc a b c)) && m_in (nI n) (m_len (m_ka (m_lc a b c)) M)))) (pc + 1) pl (.int (M (m_ka (m_lc a b c)) (m_kb (m_lc a b c)) (m_kc (m_lc a b c)) (nI n).toNatClampNeg) :: st) M = _
  have hlen : m_len a M = m_al a := by
    unfold m_len
    split
    · exact absurd rfl h26
    · rfl
  rw [m_ka_s, m_kb_s, m_kc_s, hm, ht, hlen, m_in_n hn hl, nI_clamp (by omega)]
  rfl
theorem m_E_iast {X pc a b c n : Nat} {v : Int32} {pl : List (Option Value)} {st : List Value} {M : m_Mem} (hd : m_dec X pc = some (.iastore, 1)) (ht : m_at a = 1) (hl : m_al a < 2 ^ 31) (hw : m_wr a = true) (hm : m_dom a b c = true) (hn : n < m_al a) : m_E X pc pl (.int v :: .int (nI n) :: .ref (m_lc a b c) :: st) M = m_E X (pc + 1) pl st (m_set M a b c n v) := by
  refine m_E_go hd ?_
  show m_go (Nat.beq 1 1 && (Nat.beq (m_at (m_ka (m_lc a b c))) 1 && (m_wr (m_ka (m_lc a b c)) && (m_dom (m_ka (m_lc a b c)) (m_kb (m_lc a b c)) (m_kc (m_lc a b c)) && m_in (nI n) (m_al (m_ka (m_lc a b c))))))) (pc + 1) pl st (m_set M (m_ka (m_lc a b c)) (m_kb (m_lc a b c)) (m_kc (m_lc a b c)) (nI n).toNatClampNeg v) = _
  rw [m_ka_s, m_kb_s, m_kc_s, hm, ht, hw, m_in_n hn hl, nI_clamp (by omega)]
  rfl
theorem m_E_bald {X pc a b c n : Nat} {pl : List (Option Value)} {st : List Value} {M : m_Mem} (hd : m_dec X pc = some (.baload, 1)) (ht : m_at a = 2) (hl : m_al a < 2 ^ 31) (hm : m_dom a b c = true) (hn : n < m_al a) : m_E X pc pl (.int (nI n) :: .ref (m_lc a b c) :: st) M = m_E X (pc + 1) pl (.int (M a b c n) :: st) M := by
  refine m_E_go hd ?_
  show m_go (Nat.beq 1 1 && (Nat.beq (m_at (m_ka (m_lc a b c))) 2 && (m_dom (m_ka (m_lc a b c)) (m_kb (m_lc a b c)) (m_kc (m_lc a b c)) && m_in (nI n) (m_al (m_ka (m_lc a b c)))))) (pc + 1) pl (.int (M (m_ka (m_lc a b c)) (m_kb (m_lc a b c)) (m_kc (m_lc a b c)) (nI n).toNatClampNeg) :: st) M = _
  rw [m_ka_s, m_kb_s, m_kc_s, hm, ht, m_in_n hn hl, nI_clamp (by omega)]
  rfl
theorem m_E_bast {X pc a b c n : Nat} {v : Int32} {pl : List (Option Value)} {st : List Value} {M : m_Mem} (hd : m_dec X pc = some (.bastore, 1)) (ht : m_at a = 2) (hl : m_al a < 2 ^ 31) (hw : m_wr a = true) (hm : m_dom a b c = true) (hn : n < m_al a) : m_E X pc pl (.int v :: .int (nI n) :: .ref (m_lc a b c) :: st) M = m_E X (pc + 1) pl st (m_set M a b c n (m_nb v)) := by
  refine m_E_go hd ?_
  show m_go (Nat.beq 1 1 && (Nat.beq (m_at (m_ka (m_lc a b c))) 2 && (m_wr (m_ka (m_lc a b c)) && (m_dom (m_ka (m_lc a b c)) (m_kb (m_lc a b c)) (m_kc (m_lc a b c)) && m_in (nI n) (m_al (m_ka (m_lc a b c))))))) (pc + 1) pl st (m_set M (m_ka (m_lc a b c)) (m_kb (m_lc a b c)) (m_kc (m_lc a b c)) (nI n).toNatClampNeg (m_nb v)) = _
  rw [m_ka_s, m_kb_s, m_kc_s, hm, ht, hw, m_in_n hn hl, nI_clamp (by omega)]
  rfl
theorem m_E_cald {X pc a b c n : Nat} {pl : List (Option Value)} {st : List Value} {M : m_Mem} (hd : m_dec X pc = some (.caload, 1)) (ht : m_at a = 3) (hl : m_al a < 2 ^ 31) (hm : m_dom a b c = true) (hn : n < m_al a) : m_E X pc pl (.int (nI n) :: .ref (m_lc a b c) :: st) M = m_E X (pc + 1) pl (.int (M a b c n) :: st) M := by
  refine m_E_go hd ?_
  show m_go (Nat.beq 1 1 && (Nat.beq (m_at (m_ka (m_lc a b c))) 3 && (m_dom (m_ka (m_lc a b c)) (m_kb (m_lc a b c)) (m_kc (m_lc a b c)) && m_in (nI n) (m_al (m_ka (m_lc a b c)))))) (pc + 1) pl (.int (M (m_ka (m_lc a b c)) (m_kb (m_lc a b c)) (m_kc (m_lc a b c)) (nI n).toNatClampNeg) :: st) M = _
  rw [m_ka_s, m_kb_s, m_kc_s, hm, ht, m_in_n hn hl, nI_clamp (by omega)]
  rfl
theorem m_E_cast {X pc a b c n : Nat} {v : Int32} {pl : List (Option Value)} {st : List Value} {M : m_Mem} (hd : m_dec X pc = some (.castore, 1)) (ht : m_at a = 3) (hl : m_al a < 2 ^ 31) (hw : m_wr a = true) (hm : m_dom a b c = true) (hn : n < m_al a) : m_E X pc pl (.int v :: .int (nI n) :: .ref (m_lc a b c) :: st) M = m_E X (pc + 1) pl st (m_set M a b c n (m_nc v)) := by
  refine m_E_go hd ?_
  show m_go (Nat.beq 1 1 && (Nat.beq (m_at (m_ka (m_lc a b c))) 3 && (m_wr (m_ka (m_lc a b c)) && (m_dom (m_ka (m_lc a b c)) (m_kb (m_lc a b c)) (m_kc (m_lc a b c)) && m_in (nI n) (m_al (m_ka (m_lc a b c))))))) (pc + 1) pl st (m_set M (m_ka (m_lc a b c)) (m_kb (m_lc a b c)) (m_kc (m_lc a b c)) (nI n).toNatClampNeg (m_nc v)) = _
  rw [m_ka_s, m_kb_s, m_kc_s, hm, ht, hw, m_in_n hn hl, nI_clamp (by omega)]
  rfl
theorem m_E_aald {X pc a b c n r : Nat} {pl : List (Option Value)} {st : List Value} {M : m_Mem} (hd : m_dec X pc = some (.aaload, 1)) (ht : m_at a = 5) (hl : m_al a < 2 ^ 31) (hr : m_ra a b c n (M a b c n) = r) (hm : m_dom a b c = true) (hn : n < m_al a) : m_E X pc pl (.int (nI n) :: .ref (m_lc a b c) :: st) M = m_E X (pc + 1) pl (.ref r :: st) M := by
  refine m_E_go hd ?_
  show m_go (Nat.beq 1 1 && (Nat.beq (m_at (m_ka (m_lc a b c))) 5 && (m_dom (m_ka (m_lc a b c)) (m_kb (m_lc a b c)) (m_kc (m_lc a b c)) && m_in (nI n) (m_al (m_ka (m_lc a b c)))))) (pc + 1) pl (.ref (m_ra (m_ka (m_lc a b c)) (m_kb (m_lc a b c)) (m_kc (m_lc a b c)) (nI n).toNatClampNeg (M (m_ka (m_lc a b c)) (m_kb (m_lc a b c)) (m_kc (m_lc a b c)) (nI n).toNatClampNeg)) :: st) M = _
  rw [m_ka_s, m_kb_s, m_kc_s, hm, ht, m_in_n hn hl, nI_clamp (by omega), hr]
  rfl
theorem m_E_inv0 {X pc k Y a b c : Nat} {pl : List (Option Value)} {st as r q : List Value} {M : m_Mem} (hd : m_dec X pc = some (.invokevirtual k, 3)) (hc : m_look (m_CT (m_nth m_ownL X)) k = some (Y, 0)) (ht : m_take (m_nth m_naL Y) st = some (as, r))
    (hb : (Nat.blt (m_nth m_depL Y) (m_nth m_depL X) && Nat.ble (m_sz as.reverse) (m_nth m_mlL Y) && Nat.ble (m_sz r) 8) = true) (hr : as.reverse = .ref (m_lc a b c) :: q) (hk : m_kd (m_nth m_ownL Y) = a) (hm : m_dom a b c = true) : m_E X pc pl st M = m_cE (m_cl Y (.ref (m_lc a b c) :: q) M) X (pc + 3) pl r := by
  refine m_E_call hd ?_
  show (m_look (m_CT (m_nth m_ownL X)) k).bind (fun f => match f.2 with
      | 0 => m_call X f.1 pc true st
      | _ => none) = _
  rw [hc]
  show m_call X Y pc true st = _
  unfold m_call
  rw [ht]
  dsimp only
  rw [hb, hr]
  show (match Nat.beq (m_ka (m_lc a b c)) (m_kd (m_nth m_ownL Y)) && m_dom (m_ka (m_lc a b c)) (m_kb (m_lc a b c)) (m_kc (m_lc a b c)) with
          | true => (some (.inr (.inl (Y, .ref (m_lc a b c) :: q, pc + 3, r))) : Option m_Nx)
          | false => none) = _
  rw [m_ka_s, m_kb_s, m_kc_s, hm, hk, Nat.beq_refl]
  rfl
theorem m_E_invS {X pc k Y d : Nat} {pl : List (Option Value)} {st as r q : List Value} {M : m_Mem} (hd : m_dec X pc = some (.invokestatic k, 3)) (hc : m_look (m_CT (m_nth m_ownL X)) k = some (Y, d)) (h12 : d = 1 ∨ d = 2) (ht : m_take (m_nth m_naL Y) st = some (as, r))
    (hb : (Nat.blt (m_nth m_depL Y) (m_nth m_depL X) && Nat.ble (m_sz as.reverse) (m_nth m_mlL Y) && Nat.ble (m_sz r) 8) = true) (hr : as.reverse = q) : m_E X pc pl st M = m_cE (m_cl Y q M) X (pc + 3) pl r := by
  refine m_E_call hd ?_
  have e : m_nxt X (.invokestatic k) 3 pc pl st M = m_call X Y pc false st := by
    show (match m_look (m_CT (m_nth m_ownL X)) k with
      | some (Y, 1) => m_call X Y pc false st
      | some (Y, 2) => m_call X Y pc false st
      | some (_, _) => none
      | none => _) = _
    rw [hc]
    rcases h12 with rfl | rfl <;> rfl
  rw [e]
  unfold m_call
  rw [ht]
  dsimp only
  rw [hb, hr]
