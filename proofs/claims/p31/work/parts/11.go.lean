/-! A STEP of the pure machine that goes on in the same frame is a step of the machine. -/
theorem m_len1 {len n : Nat} (h : Nat.beq len n = true) : len = n := Nat.eq_of_beq_eq_true h
theorem m_vn {r : UInt64} (h : decide (r &&& 0x7fffffffffffffff ≤ 0x7ff0000000000000) = true) : vf_n64 r := by
  show r &&& 0x7fffffffffffffff ≤ 0x7ff0000000000000
  exact of_decide_eq_true h
theorem m_no {α β : Type} {x : β} {P : Prop} (h : (none : Option β) = some x) : P := by cases h
theorem m_ref1 {g : m_G} {x a : Nat} (h : m_ka x = a) : m_tv g (.ref x) = .ref (g.1 a (m_kb x) (m_kc x)) := by subst h; rfl
theorem m_sz_c (v : Value) (t : List Value) : m_sz (v :: t) = m_sz t + v.category := by cases v <;> rfl
theorem m_sz_le {g : m_G} {r : List Value} (h : Nat.ble (m_sz r) 8 = true) : ((r.map (m_tv g)).map fun v => v.category).sum ≤ 8 := by
  have key : ∀ r : List Value, ((r.map (m_tv g)).map fun v => v.category).sum = m_sz r := by
    intro r
    induction r with
    | nil => rfl
    | cons v t ih =>
      rw [List.map_cons, List.map_cons, List.sum_cons, ih, m_tv_cat, m_sz_c, Nat.add_comm]
  rw [key]
  exact Nat.le_of_ble_eq_true h
theorem m_call_go {X Y pc : Nat} {b : Bool} {st : List Value} {z : m_S} (h : m_call X Y pc b st = some (.inl z)) : False := by
  unfold m_call at h
  split at h
  · cases h
  · split at h
    · cases h
    · split at h
      · cases h
      · split at h
        · cases h
        · split at h <;> cases h
set_option maxHeartbeats 4000000 in
theorem m_step {g : m_G} {X : Nat} {p : Program} {l : Launch} {e : Env} {R : Room} {s : State} {m : MethodId} {args : Array Value} {below : List Frame} {meth : Method} {c : Code} {cells slots : Nat} {Q : State → Prop} {pc pc' len : Nat} {i : Instr} {pl pl' : List (Option Value)} {st st' : List Value} {M M' : m_Mem}
    (C : m_C g X p l R s m args meth c) (hpl : pl.length = m_nth m_mlL X) (hd0 : m_dec X pc = some (i, len)) (hn : m_nxt X i len pc pl st M = some (.inl (pc', pl', st', M'))) (k : pl'.length = m_nth m_mlL X → m_Go g p l e R s m args below meth c cells slots Q pc' pl' st' M') : m_Go g p l e R s m args below meth c cells slots Q pc pl st M := by
  have hd := m_dec_s hd0
  obtain ⟨hx, hb9, hml, hown, hts, hR, htab, hst9, hKst, hap, hlk⟩ := id C
  cases i with
  | iconst n =>
    obtain ⟨hb, rfl, rfl, rfl, rfl⟩ := m_go_s hn
    have e1 := m_len1 hb; subst e1
    intro ls H locs hl hP hM hS
    exact lv_iconst hx hb9 hd rfl (k hpl ls H locs hl hP hM hS)
  | bipush n =>
    obtain ⟨hb, rfl, rfl, rfl, rfl⟩ := m_go_s hn
    have e1 := m_len1 hb; subst e1
    intro ls H locs hl hP hM hS
    exact lv_bipush hx hb9 hd rfl (k hpl ls H locs hl hP hM hS)
  | sipush n =>
    obtain ⟨hb, rfl, rfl, rfl, rfl⟩ := m_go_s hn
    have e1 := m_len1 hb; subst e1
    intro ls H locs hl hP hM hS
    exact lv_sipush hx hb9 hd rfl (k hpl ls H locs hl hP hM hS)
  | lconst f =>
    obtain ⟨hb, rfl, rfl, rfl, rfl⟩ := m_go_s hn
    have e1 := m_len1 hb; subst e1
    intro ls H locs hl hP hM hS
    exact lv_lconst hx hb9 hd rfl (k hpl ls H locs hl hP hM hS)
  | dconst f =>
    match f, hn, hd with
    | 0, hn, hd =>
      obtain ⟨hb, rfl, rfl, rfl, rfl⟩ := m_go_s hn
      have e1 := m_len1 hb; subst e1
      intro ls H locs hl hP hM hS
      exact lv_dconst0 hx hb9 hd (k hpl ls H locs hl hP hM hS)
    | 1, hn, hd =>
      obtain ⟨hb, rfl, rfl, rfl, rfl⟩ := m_go_s hn
      have e1 := m_len1 hb; subst e1
      intro ls H locs hl hP hM hS
      exact lv_dconst1 hx hb9 hd (k hpl ls H locs hl hP hM hS)
  | ldc q =>
    obtain ⟨v, h1, hn⟩ := Option.bind_eq_some_iff.mp hn
    obtain ⟨hb, rfl, rfl, rfl, rfl⟩ := m_go_s hn
    have e1 := m_len1 hb; subst e1
    intro ls H locs hl hP hM hS
    exact lv_ldc hx hb9 hown (hts _ (m_KI_ok _ h1)) hd (k hpl ls H locs hl hP hM hS)
  | ldc_w q =>
    obtain ⟨v, h1, hn⟩ := Option.bind_eq_some_iff.mp hn
    obtain ⟨hb, rfl, rfl, rfl, rfl⟩ := m_go_s hn
    have e1 := m_len1 hb; subst e1
    intro ls H locs hl hP hM hS
    exact lv_ldcw hx hb9 hown (hts _ (m_KI_ok _ h1)) hd (k hpl ls H locs hl hP hM hS)
  | ldc2_w q =>
    have hn : (match m_look (m_KL (m_nth m_ownL X)) q with
        | some v => m_go (Nat.beq len 3) (pc + 3) pl (.long v :: st) M
        | none => (m_look (m_KD (m_nth m_ownL X)) q).bind fun v => m_go (Nat.beq len 3) (pc + 3) pl (.double v :: st) M) = some (.inl (pc', pl', st', M')) := hn
    cases h1 : m_look (m_KL (m_nth m_ownL X)) q with
    | some v =>
      rw [h1] at hn
      obtain ⟨hb, rfl, rfl, rfl, rfl⟩ := m_go_s hn
      have e1 := m_len1 hb; subst e1
      intro ls H locs hl hP hM hS
      exact lv_ldc2 hx hb9 hown (hts _ (m_KL_ok _ h1)) hd (k hpl ls H locs hl hP hM hS)
    | none =>
      rw [h1] at hn
      obtain ⟨v, h2, hn⟩ := Option.bind_eq_some_iff.mp hn
      obtain ⟨hb, rfl, rfl, rfl, rfl⟩ := m_go_s hn
      have e1 := m_len1 hb; subst e1
      intro ls H locs hl hP hM hS
      exact lv_ldc2d hx hb9 hown (hts _ (m_KD_ok _ h2)) hd (k hpl ls H locs hl hP hM hS)
  | iload_n q =>
    obtain ⟨x, h1, hn⟩ := Option.bind_eq_some_iff.mp hn
    have h1 := m_vI_s h1
    obtain ⟨hb, rfl, rfl, rfl, rfl⟩ := m_go_s hn
    have e1 := m_len1 hb; subst e1
    intro ls H locs hl hP hM hS
    exact lv_iload_n hx hb9 hd rfl (hl.2.2 _ _ h1) (k hpl ls H locs hl hP hM hS)
  | iload q =>
    obtain ⟨x, h1, hn⟩ := Option.bind_eq_some_iff.mp hn
    have h1 := m_vI_s h1
    obtain ⟨hb, rfl, rfl, rfl, rfl⟩ := m_go_s hn
    have e1 := m_len1 hb; subst e1
    intro ls H locs hl hP hM hS
    exact lv_iload hx hb9 hd (hl.2.2 _ _ h1) (k hpl ls H locs hl hP hM hS)
  | lload_n q =>
    obtain ⟨x, h1, hn⟩ := Option.bind_eq_some_iff.mp hn
    have h1 := m_vL_s h1
    obtain ⟨hb, rfl, rfl, rfl, rfl⟩ := m_go_s hn
    have e1 := m_len1 hb; subst e1
    intro ls H locs hl hP hM hS
    exact lv_lload_n hx hb9 hd rfl (hl.2.2 _ _ h1) (k hpl ls H locs hl hP hM hS)
  | lload q =>
    obtain ⟨x, h1, hn⟩ := Option.bind_eq_some_iff.mp hn
    have h1 := m_vL_s h1
    obtain ⟨hb, rfl, rfl, rfl, rfl⟩ := m_go_s hn
    have e1 := m_len1 hb; subst e1
    intro ls H locs hl hP hM hS
    exact lv_lload hx hb9 hd (hl.2.2 _ _ h1) (k hpl ls H locs hl hP hM hS)
  | dload_n q =>
    obtain ⟨x, h1, hn⟩ := Option.bind_eq_some_iff.mp hn
    have h1 := m_vD_s h1
    obtain ⟨hb, rfl, rfl, rfl, rfl⟩ := m_go_s hn
    have e1 := m_len1 hb; subst e1
    intro ls H locs hl hP hM hS
    exact lv_dload_n hx hb9 hd rfl (hl.2.2 _ _ h1) (k hpl ls H locs hl hP hM hS)
  | dload q =>
    obtain ⟨x, h1, hn⟩ := Option.bind_eq_some_iff.mp hn
    have h1 := m_vD_s h1
    obtain ⟨hb, rfl, rfl, rfl, rfl⟩ := m_go_s hn
    have e1 := m_len1 hb; subst e1
    intro ls H locs hl hP hM hS
    exact lv_dload hx hb9 hd (hl.2.2 _ _ h1) (k hpl ls H locs hl hP hM hS)
  | aload_n q =>
    obtain ⟨x, h1, hn⟩ := Option.bind_eq_some_iff.mp hn
    have h1 := m_vR_s h1
    obtain ⟨hb, rfl, rfl, rfl, rfl⟩ := m_go_s hn
    have e1 := m_len1 hb; subst e1
    intro ls H locs hl hP hM hS
    exact lv_aload_n hx hb9 hd rfl (hl.2.2 _ _ h1) (k hpl ls H locs hl hP hM hS)
  | aload q =>
    obtain ⟨x, h1, hn⟩ := Option.bind_eq_some_iff.mp hn
    have h1 := m_vR_s h1
    obtain ⟨hb, rfl, rfl, rfl, rfl⟩ := m_go_s hn
    have e1 := m_len1 hb; subst e1
    intro ls H locs hl hP hM hS
    exact lv_aload hx hb9 hd (hl.2.2 _ _ h1) (k hpl ls H locs hl hP hM hS)
  | istore_n q =>
    obtain ⟨⟨x, r⟩, h1, hn⟩ := Option.bind_eq_some_iff.mp hn
    have h1 := m_pI_s h1
    subst h1
    obtain ⟨hb, rfl, rfl, rfl, rfl⟩ := m_go_s hn
    obtain ⟨hb1, hb2⟩ := m_an hb
    have e1 := m_len1 hb1; subst e1
    intro ls H locs hl hP hM hS
    exact lv_istore_n hx hb9 hd rfl (m_LR_has hl) (m_blt hb2) rfl (fun ls' hl' => k (by rw [m_st1_len]; exact hpl) ls' H locs (m_st1_LR (m_blt hb2) hl') hP hM hS)
  | istore q =>
    obtain ⟨⟨x, r⟩, h1, hn⟩ := Option.bind_eq_some_iff.mp hn
    have h1 := m_pI_s h1
    subst h1
    obtain ⟨hb, rfl, rfl, rfl, rfl⟩ := m_go_s hn
    obtain ⟨hb1, hb2⟩ := m_an hb
    have e1 := m_len1 hb1; subst e1
    intro ls H locs hl hP hM hS
    exact lv_istore hx hb9 hd (m_LR_has hl) (m_blt hb2) rfl (fun ls' hl' => k (by rw [m_st1_len]; exact hpl) ls' H locs (m_st1_LR (m_blt hb2) hl') hP hM hS)
  | astore_n q =>
    obtain ⟨⟨x, r⟩, h1, hn⟩ := Option.bind_eq_some_iff.mp hn
    have h1 := m_pR_s h1
    subst h1
    obtain ⟨hb, rfl, rfl, rfl, rfl⟩ := m_go_s hn
    obtain ⟨hb1, hb2⟩ := m_an hb
    have e1 := m_len1 hb1; subst e1
    intro ls H locs hl hP hM hS
    exact lv_astore_n hx hb9 hd rfl (m_LR_has hl) (m_blt hb2) rfl (fun ls' hl' => k (by rw [m_st1_len]; exact hpl) ls' H locs (m_st1_LR (m_blt hb2) hl') hP hM hS)
  | astore q =>
    obtain ⟨⟨x, r⟩, h1, hn⟩ := Option.bind_eq_some_iff.mp hn
    have h1 := m_pR_s h1
    subst h1
    obtain ⟨hb, rfl, rfl, rfl, rfl⟩ := m_go_s hn
    obtain ⟨hb1, hb2⟩ := m_an hb
    have e1 := m_len1 hb1; subst e1
    intro ls H locs hl hP hM hS
    exact lv_astore hx hb9 hd (m_LR_has hl) (m_blt hb2) rfl (fun ls' hl' => k (by rw [m_st1_len]; exact hpl) ls' H locs (m_st1_LR (m_blt hb2) hl') hP hM hS)
  | lstore_n q =>
    obtain ⟨⟨x, r⟩, h1, hn⟩ := Option.bind_eq_some_iff.mp hn
    have h1 := m_pL_s h1
    subst h1
    obtain ⟨hb, rfl, rfl, rfl, rfl⟩ := m_go_s hn
    obtain ⟨hb1, hb2⟩ := m_an hb
    have e1 := m_len1 hb1; subst e1
    intro ls H locs hl hP hM hS
    exact lv_lstore_n hx hb9 hd rfl (m_LR_has hl) (m_blt hb2) rfl (fun ls' hl' => k (by rw [m_st2, m_put_len, m_st1_len]; exact hpl) ls' H locs (m_st2_LR (m_blt hb2) hl') hP hM hS)
  | lstore q =>
    obtain ⟨⟨x, r⟩, h1, hn⟩ := Option.bind_eq_some_iff.mp hn
    have h1 := m_pL_s h1
    subst h1
    obtain ⟨hb, rfl, rfl, rfl, rfl⟩ := m_go_s hn
    obtain ⟨hb1, hb2⟩ := m_an hb
    have e1 := m_len1 hb1; subst e1
    intro ls H locs hl hP hM hS
    exact lv_lstore hx hb9 hd (m_LR_has hl) (m_blt hb2) rfl (fun ls' hl' => k (by rw [m_st2, m_put_len, m_st1_len]; exact hpl) ls' H locs (m_st2_LR (m_blt hb2) hl') hP hM hS)
  | dstore_n q =>
    obtain ⟨⟨x, r⟩, h1, hn⟩ := Option.bind_eq_some_iff.mp hn
    have h1 := m_pD_s h1
    subst h1
    obtain ⟨hb, rfl, rfl, rfl, rfl⟩ := m_go_s hn
    obtain ⟨hb1, hb2⟩ := m_an hb
    have e1 := m_len1 hb1; subst e1
    intro ls H locs hl hP hM hS
    exact lv_dstore_n hx hb9 hd rfl (m_LR_has hl) (m_blt hb2) rfl (fun ls' hl' => k (by rw [m_st2, m_put_len, m_st1_len]; exact hpl) ls' H locs (m_st2_LR (m_blt hb2) hl') hP hM hS)
  | dstore q =>
    obtain ⟨⟨x, r⟩, h1, hn⟩ := Option.bind_eq_some_iff.mp hn
    have h1 := m_pD_s h1
    subst h1
    obtain ⟨hb, rfl, rfl, rfl, rfl⟩ := m_go_s hn
    obtain ⟨hb1, hb2⟩ := m_an hb
    have e1 := m_len1 hb1; subst e1
    intro ls H locs hl hP hM hS
    exact lv_dstore hx hb9 hd (m_LR_has hl) (m_blt hb2) rfl (fun ls' hl' => k (by rw [m_st2, m_put_len, m_st1_len]; exact hpl) ls' H locs (m_st2_LR (m_blt hb2) hl') hP hM hS)
  | iinc q n =>
    obtain ⟨x, h1, hn⟩ := Option.bind_eq_some_iff.mp hn
    have h1 := m_vI_s h1
    obtain ⟨hb, rfl, rfl, rfl, rfl⟩ := m_go_s hn
    obtain ⟨hb1, hb2⟩ := m_an hb
    have e1 := m_len1 hb1; subst e1
    intro ls H locs hl hP hM hS
    obtain ⟨j, hj⟩ := List.getElem?_of_mem (m_as_mem (g := g) (q := (q, .int x)).mpr ⟨_, h1, rfl⟩)
    exact lv_iinc hx hb9 hd (m_LR_has hl) hj rfl (m_blt hb2) rfl (fun ls' hl' => k (by rw [m_st1_len]; exact hpl) ls' H locs (m_st1_LR (m_blt hb2) hl') hP hM hS)
  | iadd =>
    obtain ⟨⟨y, r1⟩, h1, hn⟩ := Option.bind_eq_some_iff.mp hn
    obtain ⟨⟨x, r⟩, h2, hn⟩ := Option.bind_eq_some_iff.mp hn
    have h1 := m_pI_s h1
    have h2 := m_pI_s h2
    dsimp only at h2
    subst h2
    subst h1
    obtain ⟨hb, rfl, rfl, rfl, rfl⟩ := m_go_s hn
    have e1 := m_len1 hb; subst e1
    intro ls H locs hl hP hM hS
    exact lv_iadd hx hb9 hd (k hpl ls H locs hl hP hM hS)
  | isub =>
    obtain ⟨⟨y, r1⟩, h1, hn⟩ := Option.bind_eq_some_iff.mp hn
    obtain ⟨⟨x, r⟩, h2, hn⟩ := Option.bind_eq_some_iff.mp hn
    have h1 := m_pI_s h1
    have h2 := m_pI_s h2
    dsimp only at h2
    subst h2
    subst h1
    obtain ⟨hb, rfl, rfl, rfl, rfl⟩ := m_go_s hn
    have e1 := m_len1 hb; subst e1
    intro ls H locs hl hP hM hS
    exact lv_isub hx hb9 hd (k hpl ls H locs hl hP hM hS)
  | imul =>
    obtain ⟨⟨y, r1⟩, h1, hn⟩ := Option.bind_eq_some_iff.mp hn
    obtain ⟨⟨x, r⟩, h2, hn⟩ := Option.bind_eq_some_iff.mp hn
    have h1 := m_pI_s h1
    have h2 := m_pI_s h2
    dsimp only at h2
    subst h2
    subst h1
    obtain ⟨hb, rfl, rfl, rfl, rfl⟩ := m_go_s hn
    have e1 := m_len1 hb; subst e1
    intro ls H locs hl hP hM hS
    exact lv_imul hx hb9 hd (k hpl ls H locs hl hP hM hS)
  | iand =>
    obtain ⟨⟨y, r1⟩, h1, hn⟩ := Option.bind_eq_some_iff.mp hn
    obtain ⟨⟨x, r⟩, h2, hn⟩ := Option.bind_eq_some_iff.mp hn
    have h1 := m_pI_s h1
    have h2 := m_pI_s h2
    dsimp only at h2
    subst h2
    subst h1
    obtain ⟨hb, rfl, rfl, rfl, rfl⟩ := m_go_s hn
    have e1 := m_len1 hb; subst e1
    intro ls H locs hl hP hM hS
    exact lv_iand hx hb9 hd (k hpl ls H locs hl hP hM hS)
  | ixor =>
    obtain ⟨⟨y, r1⟩, h1, hn⟩ := Option.bind_eq_some_iff.mp hn
    obtain ⟨⟨x, r⟩, h2, hn⟩ := Option.bind_eq_some_iff.mp hn
    have h1 := m_pI_s h1
    have h2 := m_pI_s h2
    dsimp only at h2
    subst h2
    subst h1
    obtain ⟨hb, rfl, rfl, rfl, rfl⟩ := m_go_s hn
    have e1 := m_len1 hb; subst e1
    intro ls H locs hl hP hM hS
    exact lv_ixor hx hb9 hd (k hpl ls H locs hl hP hM hS)
  | ishr =>
    obtain ⟨⟨y, r1⟩, h1, hn⟩ := Option.bind_eq_some_iff.mp hn
    obtain ⟨⟨x, r⟩, h2, hn⟩ := Option.bind_eq_some_iff.mp hn
    have h1 := m_pI_s h1
    have h2 := m_pI_s h2
    dsimp only at h2
    subst h2
    subst h1
    obtain ⟨hb, rfl, rfl, rfl, rfl⟩ := m_go_s hn
    have e1 := m_len1 hb; subst e1
    intro ls H locs hl hP hM hS
    exact lv_ishr hx hb9 hd (k hpl ls H locs hl hP hM hS)
  | idiv =>
    obtain ⟨⟨y, r1⟩, h1, hn⟩ := Option.bind_eq_some_iff.mp hn
    obtain ⟨⟨x, r⟩, h2, hn⟩ := Option.bind_eq_some_iff.mp hn
    have h1 := m_pI_s h1
    have h2 := m_pI_s h2
    dsimp only at h2
    subst h2
    subst h1
    obtain ⟨hb, rfl, rfl, rfl, rfl⟩ := m_go_s hn
    obtain ⟨hb1, hb2⟩ := m_an hb
    have e1 := m_len1 hb1; subst e1
    have hb2 : (!(y == 0)) = true := hb2
    have hne : ¬ y = 0 := by intro e9; rw [e9] at hb2; exact absurd hb2 (by decide)
    intro ls H locs hl hP hM hS
    exact lv_idiv hx hb9 hd hne (k hpl ls H locs hl hP hM hS)
  | irem =>
    obtain ⟨⟨y, r1⟩, h1, hn⟩ := Option.bind_eq_some_iff.mp hn
    obtain ⟨⟨x, r⟩, h2, hn⟩ := Option.bind_eq_some_iff.mp hn
    have h1 := m_pI_s h1
    have h2 := m_pI_s h2
    dsimp only at h2
    subst h2
    subst h1
    obtain ⟨hb, rfl, rfl, rfl, rfl⟩ := m_go_s hn
    obtain ⟨hb1, hb2⟩ := m_an hb
    have e1 := m_len1 hb1; subst e1
    have hb2 : (!(y == 0)) = true := hb2
    have hne : ¬ y = 0 := by intro e9; rw [e9] at hb2; exact absurd hb2 (by decide)
    intro ls H locs hl hP hM hS
    exact lv_irem hx hb9 hd hne (k hpl ls H locs hl hP hM hS)
  | ineg =>
    obtain ⟨⟨x, r⟩, h1, hn⟩ := Option.bind_eq_some_iff.mp hn
    have h1 := m_pI_s h1
    subst h1
    obtain ⟨hb, rfl, rfl, rfl, rfl⟩ := m_go_s hn
    have e1 := m_len1 hb; subst e1
    intro ls H locs hl hP hM hS
    exact lv_ineg hx hb9 hd (k hpl ls H locs hl hP hM hS)
  | ladd =>
    obtain ⟨⟨y, r1⟩, h1, hn⟩ := Option.bind_eq_some_iff.mp hn
    obtain ⟨⟨x, r⟩, h2, hn⟩ := Option.bind_eq_some_iff.mp hn
    have h1 := m_pL_s h1
    have h2 := m_pL_s h2
    dsimp only at h2
    subst h2
    subst h1
    obtain ⟨hb, rfl, rfl, rfl, rfl⟩ := m_go_s hn
    have e1 := m_len1 hb; subst e1
    intro ls H locs hl hP hM hS
    exact lv_ladd hx hb9 hd (k hpl ls H locs hl hP hM hS)
  | lsub =>
    obtain ⟨⟨y, r1⟩, h1, hn⟩ := Option.bind_eq_some_iff.mp hn
    obtain ⟨⟨x, r⟩, h2, hn⟩ := Option.bind_eq_some_iff.mp hn
    have h1 := m_pL_s h1
    have h2 := m_pL_s h2
    dsimp only at h2
    subst h2
    subst h1
    obtain ⟨hb, rfl, rfl, rfl, rfl⟩ := m_go_s hn
    have e1 := m_len1 hb; subst e1
    intro ls H locs hl hP hM hS
    exact lv_lsub hx hb9 hd (k hpl ls H locs hl hP hM hS)
  | lmul =>
    obtain ⟨⟨y, r1⟩, h1, hn⟩ := Option.bind_eq_some_iff.mp hn
    obtain ⟨⟨x, r⟩, h2, hn⟩ := Option.bind_eq_some_iff.mp hn
    have h1 := m_pL_s h1
    have h2 := m_pL_s h2
    dsimp only at h2
    subst h2
    subst h1
    obtain ⟨hb, rfl, rfl, rfl, rfl⟩ := m_go_s hn
    have e1 := m_len1 hb; subst e1
    intro ls H locs hl hP hM hS
    exact lv_lmul hx hb9 hd (k hpl ls H locs hl hP hM hS)
  | lshl =>
    obtain ⟨⟨y, r1⟩, h1, hn⟩ := Option.bind_eq_some_iff.mp hn
    obtain ⟨⟨x, r⟩, h2, hn⟩ := Option.bind_eq_some_iff.mp hn
    have h1 := m_pI_s h1
    have h2 := m_pL_s h2
    dsimp only at h2
    subst h2
    subst h1
    obtain ⟨hb, rfl, rfl, rfl, rfl⟩ := m_go_s hn
    have e1 := m_len1 hb; subst e1
    intro ls H locs hl hP hM hS
    exact lv_lshl hx hb9 hd rfl (k hpl ls H locs hl hP hM hS)
  | lcmp =>
    obtain ⟨⟨y, r1⟩, h1, hn⟩ := Option.bind_eq_some_iff.mp hn
    obtain ⟨⟨x, r⟩, h2, hn⟩ := Option.bind_eq_some_iff.mp hn
    have h1 := m_pL_s h1
    have h2 := m_pL_s h2
    dsimp only at h2
    subst h2
    subst h1
    obtain ⟨hb, rfl, rfl, rfl, rfl⟩ := m_go_s hn
    have e1 := m_len1 hb; subst e1
    intro ls H locs hl hP hM hS
    exact W.lcmp hx hb9 hd (k hpl ls H locs hl hP hM hS)
  | dcmp o =>
    obtain ⟨⟨y, r1⟩, h1, hn⟩ := Option.bind_eq_some_iff.mp hn
    obtain ⟨⟨x, r⟩, h2, hn⟩ := Option.bind_eq_some_iff.mp hn
    have h1 := m_pD_s h1
    have h2 := m_pD_s h2
    dsimp only at h2
    subst h2
    subst h1
    obtain ⟨hb, rfl, rfl, rfl, rfl⟩ := m_go_s hn
    have e1 := m_len1 hb; subst e1
    intro ls H locs hl hP hM hS
    exact lv_dcmp hx hb9 hd (k hpl ls H locs hl hP hM hS)
  | ddiv =>
    obtain ⟨⟨y, r1⟩, h1, hn⟩ := Option.bind_eq_some_iff.mp hn
    obtain ⟨⟨x, r⟩, h2, hn⟩ := Option.bind_eq_some_iff.mp hn
    have h1 := m_pD_s h1
    have h2 := m_pD_s h2
    dsimp only at h2
    subst h2
    subst h1
    obtain ⟨hb, rfl, rfl, rfl, rfl⟩ := m_go_s hn
    obtain ⟨hb1, hb2⟩ := m_an hb
    have e1 := m_len1 hb1; subst e1
    intro ls H locs hl hP hM hS
    exact lv_ddiv hx hb9 hd (m_vn hb2) (k hpl ls H locs hl hP hM hS)
  | dmul =>
    obtain ⟨⟨y, r1⟩, h1, hn⟩ := Option.bind_eq_some_iff.mp hn
    obtain ⟨⟨x, r⟩, h2, hn⟩ := Option.bind_eq_some_iff.mp hn
    have h1 := m_pD_s h1
    have h2 := m_pD_s h2
    dsimp only at h2
    subst h2
    subst h1
    obtain ⟨hb, rfl, rfl, rfl, rfl⟩ := m_go_s hn
    obtain ⟨hb1, hb2⟩ := m_an hb
    have e1 := m_len1 hb1; subst e1
    intro ls H locs hl hP hM hS
    exact lv_dmul hx hb9 hd (m_vn hb2) (k hpl ls H locs hl hP hM hS)
  | i2l =>
    obtain ⟨⟨x, r⟩, h1, hn⟩ := Option.bind_eq_some_iff.mp hn
    have h1 := m_pI_s h1
    subst h1
    obtain ⟨hb, rfl, rfl, rfl, rfl⟩ := m_go_s hn
    have e1 := m_len1 hb; subst e1
    intro ls H locs hl hP hM hS
    exact lv_i2l hx hb9 hd rfl (k hpl ls H locs hl hP hM hS)
  | i2c =>
    obtain ⟨⟨x, r⟩, h1, hn⟩ := Option.bind_eq_some_iff.mp hn
    have h1 := m_pI_s h1
    subst h1
    obtain ⟨hb, rfl, rfl, rfl, rfl⟩ := m_go_s hn
    have e1 := m_len1 hb; subst e1
    intro ls H locs hl hP hM hS
    exact lv_i2c hx hb9 hd rfl (k hpl ls H locs hl hP hM hS)
  | i2d =>
    obtain ⟨⟨x, r⟩, h1, hn⟩ := Option.bind_eq_some_iff.mp hn
    have h1 := m_pI_s h1
    subst h1
    obtain ⟨hb, rfl, rfl, rfl, rfl⟩ := m_go_s hn
    have e1 := m_len1 hb; subst e1
    intro ls H locs hl hP hM hS
    exact lv_i2d hx hb9 hd (k hpl ls H locs hl hP hM hS)
  | l2d =>
    obtain ⟨⟨x, r⟩, h1, hn⟩ := Option.bind_eq_some_iff.mp hn
    have h1 := m_pL_s h1
    subst h1
    obtain ⟨hb, rfl, rfl, rfl, rfl⟩ := m_go_s hn
    have e1 := m_len1 hb; subst e1
    intro ls H locs hl hP hM hS
    exact lv_l2d hx hb9 hd (k hpl ls H locs hl hP hM hS)
  | d2l =>
    obtain ⟨⟨x, r⟩, h1, hn⟩ := Option.bind_eq_some_iff.mp hn
    have h1 := m_pD_s h1
    subst h1
    obtain ⟨hb, rfl, rfl, rfl, rfl⟩ := m_go_s hn
    have e1 := m_len1 hb; subst e1
    intro ls H locs hl hP hM hS
    exact lv_d2l hx hb9 hd (k hpl ls H locs hl hP hM hS)
  | dup =>
    obtain ⟨⟨x, r⟩, h1, hn⟩ := Option.bind_eq_some_iff.mp hn
    obtain ⟨hb, rfl, rfl, rfl, rfl⟩ := m_go_s hn
    have e1 := m_len1 hb; subst e1
    obtain ⟨h1, hc⟩ := m_p1_s h1
    subst h1
    intro ls H locs hl hP hM hS
    exact lv_dup hx hb9 hd (by rw [m_tv_cat]; exact hc) (k hpl ls H locs hl hP hM hS)
  | pop =>
    obtain ⟨⟨x, r⟩, h1, hn⟩ := Option.bind_eq_some_iff.mp hn
    obtain ⟨hb, rfl, rfl, rfl, rfl⟩ := m_go_s hn
    have e1 := m_len1 hb; subst e1
    obtain ⟨h1, hc⟩ := m_p1_s h1
    subst h1
    intro ls H locs hl hP hM hS
    exact lv_pop hx hb9 hd (by rw [m_tv_cat]; exact hc) (k hpl ls H locs hl hP hM hS)
  | dup2 =>
    obtain ⟨⟨y, r1⟩, h1, hn⟩ := Option.bind_eq_some_iff.mp hn
    obtain ⟨⟨x, r⟩, h2, hn⟩ := Option.bind_eq_some_iff.mp hn
    obtain ⟨hb, rfl, rfl, rfl, rfl⟩ := m_go_s hn
    have e1 := m_len1 hb; subst e1
    obtain ⟨h1, hc⟩ := m_p1_s h1
    obtain ⟨h2, hc2⟩ := m_p1_s h2
    dsimp only at h2
    subst h2
    subst h1
    intro ls H locs hl hP hM hS
    exact lv_dup2_11 hx hb9 hd (by rw [m_tv_cat]; exact hc) (by rw [m_tv_cat]; exact hc2) (k hpl ls H locs hl hP hM hS)
  | ifCond o0 o =>
    obtain ⟨⟨x, r⟩, h1, hn⟩ := Option.bind_eq_some_iff.mp hn
    have h1 := m_pI_s h1
    subst h1
    obtain ⟨hb, rfl, rfl, rfl, rfl⟩ := m_go_s hn
    obtain ⟨hb1, hb2⟩ := m_an hb
    have e1 := m_len1 hb1; subst e1
    intro ls H locs hl hP hM hS
    exact m_c1_s (len := 3) hx hb9 hd hb2 (k hpl ls H locs hl hP hM hS)
  | if_icmp o0 o =>
    obtain ⟨⟨y, r1⟩, h1, hn⟩ := Option.bind_eq_some_iff.mp hn
    obtain ⟨⟨x, r⟩, h2, hn⟩ := Option.bind_eq_some_iff.mp hn
    have h1 := m_pI_s h1
    have h2 := m_pI_s h2
    dsimp only at h2
    subst h2
    subst h1
    obtain ⟨hb, rfl, rfl, rfl, rfl⟩ := m_go_s hn
    obtain ⟨hb1, hb2⟩ := m_an hb
    have e1 := m_len1 hb1; subst e1
    intro ls H locs hl hP hM hS
    exact m_c2_s hx hb9 hd hb2 (k hpl ls H locs hl hP hM hS)
  | goto o =>
    obtain ⟨hb, rfl, rfl, rfl, rfl⟩ := m_go_s hn
    obtain ⟨hb1, hb2⟩ := m_an hb
    have e1 := m_len1 hb1; subst e1
    intro ls H locs hl hP hM hS
    exact lv_goto hx hb9 hd (m_tk_s hb2) (k hpl ls H locs hl hP hM hS)
  | tableswitch d lo hi os =>
    obtain ⟨⟨x, r⟩, h1, hn⟩ := Option.bind_eq_some_iff.mp hn
    have h1 := m_pI_s h1
    subst h1
    obtain ⟨hb, rfl, rfl, rfl, rfl⟩ := m_go_s hn
    obtain ⟨hb1, hb3⟩ := m_an hb
    obtain ⟨hb1, hb2⟩ := m_an hb1
    have hb3 : hi + 1 = lo + (os.toList.length : Int) := eq_of_beq hb3
    intro ls H locs hl hP hM hS
    have k2 := k hpl ls H locs hl hP hM hS
    rcases m_sw_s (x := x) os.toList lo (m_tg pc d) hb2 with ⟨j, o, q1, q2, q3⟩ | ⟨q1, q2⟩
    · have hj : j < os.toList.length := (List.getElem?_eq_some_iff.mp q1).1
      refine lv_tableIn hx hb9 hd (by omega) (by omega) (off := o) ?_ q3 k2
      rw [show (x.toInt - lo).toNat = j by omega, ← Array.getElem?_toList]
      exact q1
    · rw [q2] at k2
      refine lv_tableOut hx hb9 hd ?_ (m_tk_s hb1) k2
      rcases Int.lt_or_le x.toInt lo with z | z
      · exact Or.inl z
      · refine Or.inr ?_
        rcases Int.lt_or_le hi x.toInt with z2 | z2
        · exact z2
        · exact absurd (show x.toInt = lo + ((x.toInt - lo).toNat : Nat) by omega) (q1 (x.toInt - lo).toNat (by omega))
  | lookupswitch d ps =>
    obtain ⟨⟨x, r⟩, h1, hn⟩ := Option.bind_eq_some_iff.mp hn
    have h1 := m_pI_s h1
    subst h1
    obtain ⟨hb, rfl, rfl, rfl, rfl⟩ := m_go_s hn
    obtain ⟨hb1, hb3⟩ := m_an hb
    obtain ⟨hb1, hb2⟩ := m_an hb1
    intro ls H locs hl hP hM hS
    exact lv_lookup hx hb9 hd hb3 rfl (m_ls_s ps.toList d hb2 hb1) (k hpl ls H locs hl hP hM hS)
  | getfield q =>
    obtain ⟨⟨a, f⟩, hf, hn⟩ := Option.bind_eq_some_iff.mp hn
    obtain ⟨⟨x, r⟩, h1, hn⟩ := Option.bind_eq_some_iff.mp hn
    have h1 := m_pR_s h1
    subst h1
    obtain ⟨hb, rfl, rfl, rfl, rfl⟩ := m_go_s hn
    obtain ⟨hb1, hb2⟩ := m_an hb
    have e1 := m_len1 hb1; subst e1
    obtain ⟨hk, hm⟩ := m_an hb2
    have hk := m_bq hk
    intro ls H locs hl hP hM hS
    show W p l e R s m args below meth c H locs cells slots Q (F0 m pc ls (m_tv g (.ref x) :: _))
    rw [m_ref1 hk]
    exact m_get_s C hf hm hd hP (k hpl ls H locs hl hP hM hS)
  | putfield q =>
    obtain ⟨⟨a, f⟩, hf, hn⟩ := Option.bind_eq_some_iff.mp hn
    obtain ⟨⟨v, r1⟩, h1, hn⟩ := Option.bind_eq_some_iff.mp hn
    obtain ⟨⟨x, r⟩, h2, hn⟩ := Option.bind_eq_some_iff.mp hn
    have h1 := m_pI_s h1
    have h2 := m_pR_s h2
    dsimp only at h2
    subst h2
    subst h1
    obtain ⟨hb, rfl, rfl, rfl, rfl⟩ := m_go_s hn
    obtain ⟨hb, hv⟩ := m_an hb
    obtain ⟨hb1, hb2⟩ := m_an hb
    have e1 := m_len1 hb1; subst e1
    obtain ⟨hk, hm⟩ := m_an hb2
    have hk := m_bq hk
    intro ls H locs hl hP hM hS
    show W p l e R s m args below meth c H locs cells slots Q (F0 m pc ls (.int v :: m_tv g (.ref x) :: _))
    rw [m_ref1 hk]
    exact m_put_s C hf hm hv hd hP hM hS (fun H1 locs1 hP1 hM1 hS1 => k hpl ls H1 locs1 hl hP1 hM1 hS1)
  | getstatic q =>
    obtain ⟨a, hf, hn⟩ := Option.bind_eq_some_iff.mp hn
    obtain ⟨hb, rfl, rfl, rfl, rfl⟩ := m_go_s hn
    have e1 := m_len1 hb; subst e1
    intro ls H locs hl hP hM hS
    exact m_gets_s C hf hd hS (k hpl ls H locs hl hP hM hS)
  | iaload =>
    obtain ⟨⟨j, r1⟩, h1, hn⟩ := Option.bind_eq_some_iff.mp hn
    obtain ⟨⟨x, r⟩, h2, hn⟩ := Option.bind_eq_some_iff.mp hn
    have h1 := m_pI_s h1
    have h2 := m_pR_s h2
    dsimp only at h2
    subst h2
    subst h1
    obtain ⟨hb, rfl, rfl, rfl, rfl⟩ := m_go_s hn
    obtain ⟨hb1, hb2⟩ := m_an hb
    have e1 := m_len1 hb1; subst e1
    obtain ⟨ht, hb2⟩ := m_an hb2
    obtain ⟨hm, hin⟩ := m_an hb2
    have ht := m_bq ht
    intro ls H locs hl hP hM hS
    show W p l e R s m args below meth c H locs cells slots Q (F0 m pc ls (.int j :: m_tv g (.ref x) :: _))
    rw [m_ref1 rfl]
    exact m_iald_s C ht hm hin hd hP hM hS (k hpl ls H locs hl hP hM hS)
  | baload =>
    obtain ⟨⟨j, r1⟩, h1, hn⟩ := Option.bind_eq_some_iff.mp hn
    obtain ⟨⟨x, r⟩, h2, hn⟩ := Option.bind_eq_some_iff.mp hn
    have h1 := m_pI_s h1
    have h2 := m_pR_s h2
    dsimp only at h2
    subst h2
    subst h1
    obtain ⟨hb, rfl, rfl, rfl, rfl⟩ := m_go_s hn
    obtain ⟨hb1, hb2⟩ := m_an hb
    have e1 := m_len1 hb1; subst e1
    obtain ⟨ht, hb2⟩ := m_an hb2
    obtain ⟨hm, hin⟩ := m_an hb2
    have ht := m_bq ht
    intro ls H locs hl hP hM hS
    show W p l e R s m args below meth c H locs cells slots Q (F0 m pc ls (.int j :: m_tv g (.ref x) :: _))
    rw [m_ref1 rfl]
    exact m_bald_s C ht (by rcases m_at_lt _ (show m_at (m_ka x) ≠ 0 by rw [ht]; decide) with z | z | z | z <;> first | exact z | (rw [z] at ht; exact absurd ht (by decide))) hm hin hd hP (k hpl ls H locs hl hP hM hS)
  | caload =>
    obtain ⟨⟨j, r1⟩, h1, hn⟩ := Option.bind_eq_some_iff.mp hn
    obtain ⟨⟨x, r⟩, h2, hn⟩ := Option.bind_eq_some_iff.mp hn
    have h1 := m_pI_s h1
    have h2 := m_pR_s h2
    dsimp only at h2
    subst h2
    subst h1
    obtain ⟨hb, rfl, rfl, rfl, rfl⟩ := m_go_s hn
    obtain ⟨hb1, hb2⟩ := m_an hb
    have e1 := m_len1 hb1; subst e1
    obtain ⟨ht, hb2⟩ := m_an hb2
    obtain ⟨hm, hin⟩ := m_an hb2
    have ht := m_bq ht
    intro ls H locs hl hP hM hS
    show W p l e R s m args below meth c H locs cells slots Q (F0 m pc ls (.int j :: m_tv g (.ref x) :: _))
    rw [m_ref1 rfl]
    exact m_cald_s C ht (by rcases m_at_lt _ (show m_at (m_ka x) ≠ 0 by rw [ht]; decide) with z | z | z | z <;> first | exact z | (rw [z] at ht; exact absurd ht (by decide))) hm hin hd hP (k hpl ls H locs hl hP hM hS)
  | aaload =>
    obtain ⟨⟨j, r1⟩, h1, hn⟩ := Option.bind_eq_some_iff.mp hn
    obtain ⟨⟨x, r⟩, h2, hn⟩ := Option.bind_eq_some_iff.mp hn
    have h1 := m_pI_s h1
    have h2 := m_pR_s h2
    dsimp only at h2
    subst h2
    subst h1
    obtain ⟨hb, rfl, rfl, rfl, rfl⟩ := m_go_s hn
    obtain ⟨hb1, hb2⟩ := m_an hb
    have e1 := m_len1 hb1; subst e1
    obtain ⟨ht, hb2⟩ := m_an hb2
    obtain ⟨hm, hin⟩ := m_an hb2
    have ht := m_bq ht
    intro ls H locs hl hP hM hS
    show W p l e R s m args below meth c H locs cells slots Q (F0 m pc ls (.int j :: m_tv g (.ref x) :: _))
    rw [m_ref1 rfl]
    exact m_aald_s C ht (by rcases m_at_lt _ (show m_at (m_ka x) ≠ 0 by rw [ht]; decide) with z | z | z | z <;> first | exact z | (rw [z] at ht; exact absurd ht (by decide))) hm hin hd hP (k hpl ls H locs hl hP hM hS)
  | iastore =>
    obtain ⟨⟨v, r0⟩, h0, hn⟩ := Option.bind_eq_some_iff.mp hn
    obtain ⟨⟨j, r1⟩, h1, hn⟩ := Option.bind_eq_some_iff.mp hn
    obtain ⟨⟨x, r⟩, h2, hn⟩ := Option.bind_eq_some_iff.mp hn
    have h0 := m_pI_s h0
    have h1 := m_pI_s h1
    have h2 := m_pR_s h2
    dsimp only at h1 h2
    subst h2
    subst h1
    subst h0
    obtain ⟨hb, rfl, rfl, rfl, rfl⟩ := m_go_s hn
    obtain ⟨hb1, hb2⟩ := m_an hb
    have e1 := m_len1 hb1; subst e1
    obtain ⟨ht, hb2⟩ := m_an hb2
    obtain ⟨hw, hb2⟩ := m_an hb2
    obtain ⟨hm, hin⟩ := m_an hb2
    have ht := m_bq ht
    intro ls H locs hl hP hM hS
    show W p l e R s m args below meth c H locs cells slots Q (F0 m pc ls (.int v :: .int j :: m_tv g (.ref x) :: _))
    rw [m_ref1 rfl]
    exact m_iast_s C ht hw hm hin hd hP hM hS (fun H1 locs1 hP1 hM1 hS1 => k hpl ls H1 locs1 hl hP1 hM1 hS1)
  | bastore =>
    obtain ⟨⟨v, r0⟩, h0, hn⟩ := Option.bind_eq_some_iff.mp hn
    obtain ⟨⟨j, r1⟩, h1, hn⟩ := Option.bind_eq_some_iff.mp hn
    obtain ⟨⟨x, r⟩, h2, hn⟩ := Option.bind_eq_some_iff.mp hn
    have h0 := m_pI_s h0
    have h1 := m_pI_s h1
    have h2 := m_pR_s h2
    dsimp only at h1 h2
    subst h2
    subst h1
    subst h0
    obtain ⟨hb, rfl, rfl, rfl, rfl⟩ := m_go_s hn
    obtain ⟨hb1, hb2⟩ := m_an hb
    have e1 := m_len1 hb1; subst e1
    obtain ⟨ht, hb2⟩ := m_an hb2
    obtain ⟨hw, hb2⟩ := m_an hb2
    obtain ⟨hm, hin⟩ := m_an hb2
    have ht := m_bq ht
    intro ls H locs hl hP hM hS
    show W p l e R s m args below meth c H locs cells slots Q (F0 m pc ls (.int v :: .int j :: m_tv g (.ref x) :: _))
    rw [m_ref1 rfl]
    exact m_bast_s C ht hw hm hin hd hP hM hS (fun H1 locs1 hP1 hM1 hS1 => k hpl ls H1 locs1 hl hP1 hM1 hS1)
  | castore =>
    obtain ⟨⟨v, r0⟩, h0, hn⟩ := Option.bind_eq_some_iff.mp hn
    obtain ⟨⟨j, r1⟩, h1, hn⟩ := Option.bind_eq_some_iff.mp hn
    obtain ⟨⟨x, r⟩, h2, hn⟩ := Option.bind_eq_some_iff.mp hn
    have h0 := m_pI_s h0
    have h1 := m_pI_s h1
    have h2 := m_pR_s h2
    dsimp only at h1 h2
    subst h2
    subst h1
    subst h0
    obtain ⟨hb, rfl, rfl, rfl, rfl⟩ := m_go_s hn
    obtain ⟨hb1, hb2⟩ := m_an hb
    have e1 := m_len1 hb1; subst e1
    obtain ⟨ht, hb2⟩ := m_an hb2
    obtain ⟨hw, hb2⟩ := m_an hb2
    obtain ⟨hm, hin⟩ := m_an hb2
    have ht := m_bq ht
    intro ls H locs hl hP hM hS
    show W p l e R s m args below meth c H locs cells slots Q (F0 m pc ls (.int v :: .int j :: m_tv g (.ref x) :: _))
    rw [m_ref1 rfl]
    exact m_cast_s C ht hw hm hin hd hP hM hS (fun H1 locs1 hP1 hM1 hS1 => k hpl ls H1 locs1 hl hP1 hM1 hS1)
  | aastore =>
    obtain ⟨⟨v, r0⟩, h0, hn⟩ := Option.bind_eq_some_iff.mp hn
    obtain ⟨⟨j, r1⟩, h1, hn⟩ := Option.bind_eq_some_iff.mp hn
    obtain ⟨⟨x, r⟩, h2, hn⟩ := Option.bind_eq_some_iff.mp hn
    have h0 := m_pR_s h0
    have h1 := m_pI_s h1
    have h2 := m_pR_s h2
    dsimp only at h1 h2
    subst h2
    subst h1
    subst h0
    obtain ⟨hb, rfl, rfl, rfl, rfl⟩ := m_go_s hn
    obtain ⟨hb, hv⟩ := m_an hb
    obtain ⟨hb1, hb2⟩ := m_an hb
    have e1 := m_len1 hb1; subst e1
    obtain ⟨hk, hb2⟩ := m_an hb2
    obtain ⟨hm, hin⟩ := m_an hb2
    have hk := m_bq hk
    obtain ⟨v7, hv⟩ := m_an hv
    obtain ⟨v0, hv⟩ := m_an hv
    obtain ⟨v3, v9⟩ := m_an hv
    have v7 := m_bq v7
    have v0 := m_bq v0
    have v3 := Nat.le_of_ble_eq_true v3
    have v9 := m_blt v9
    intro ls H locs hl hP hM hS
    dsimp only at hm hin ⊢
    rw [hk] at hm hin
    show W p l e R s m args below meth c H locs cells slots Q (F0 m pc ls (m_tv g (.ref v) :: .int j :: m_tv g (.ref x) :: _))
    rw [m_ref1 hk, m_ref1 v7, v0]
    refine m_aast_s C hm hin v3 v9 hd hP hM hS (fun H1 locs1 hP1 hM1 hS1 => ?_)
    have k2 := k hpl
    dsimp only at k2
    rw [hk] at k2
    exact k2 ls H1 locs1 hl hP1 hM1 hS1
  | arraylength =>
    obtain ⟨⟨x, r⟩, h1, hn⟩ := Option.bind_eq_some_iff.mp hn
    have h1 := m_pR_s h1
    subst h1
    obtain ⟨hb, rfl, rfl, rfl, rfl⟩ := m_go_s hn
    obtain ⟨hb1, hb2⟩ := m_an hb
    have e1 := m_len1 hb1; subst e1
    obtain ⟨hk, hm⟩ := m_an hb2
    have hk := m_bq hk
    intro ls H locs hl hP hM hS
    dsimp only at hm
    rw [hk] at hm
    obtain ⟨z1, z2⟩ := m_an hm
    have z1 := m_bq z1
    have z2 := m_bq z2
    show W p l e R s m args below meth c H locs cells slots Q (F0 m pc ls (m_tv g (.ref x) :: _))
    rw [m_ref1 hk, z1, z2]
    exact m_alen_s C hd hM hS (k hpl ls H locs hl hP hM hS)
  | invokestatic q =>
    have hn : (match Nat.beq len 3 with
        | false => none
        | true => match m_look (m_CT (m_nth m_ownL X)) q with
          | some (Y, 1) => m_call X Y pc false st
          | some (Y, 2) => m_call X Y pc false st
          | some (_, _) => none
          | none => (m_look (m_NA (m_nth m_ownL X)) q).bind fun f => match f with
            | 1 => (m_pI st).bind fun n => (m_pI n.2).bind fun dp => (m_pR dp.2).bind fun y => (m_pI y.2).bind fun sp => (m_pR sp.2).bind fun x =>
              m_go (Nat.ble 1 (m_nth m_depL X) && Nat.ble (m_sz x.2) 8 && (n.1 == 5 && (dp.1 == 0 && sp.1 == 0)) && (Nat.beq (m_ka x.1) 11 && (Nat.beq (m_ka y.1) 11 && (m_dom 11 (m_kb x.1) (m_kc x.1) && m_dom 11 (m_kb y.1) (m_kc y.1))))) (pc + 3) pl x.2
                (m_cpy M 11 (m_kb y.1) (m_kc y.1) (m_kb x.1) (m_kc x.1))
            | 3 => (m_pD st).bind fun d => m_go (Nat.ble 1 (m_nth m_depL X) && Nat.ble (m_sz d.2) 8) (pc + 3) pl (.long d.1.toInt64 :: d.2) M
            | _ => none : Option m_Nx) = some (.inl (pc', pl', st', M')) := hn
    have hz9 := hn
    clear hn
    cases h3 : Nat.beq len 3 with
    | false => rw [h3] at hz9; cases hz9
    | true =>
      rw [h3] at hz9
      have e1 := m_len1 h3
      subst e1
      have hn := hz9
      cases h4 : m_look (m_CT (m_nth m_ownL X)) q with
      | some f =>
        rw [h4] at hn
        obtain ⟨Y, d⟩ := f
        match d, h4, hn with
        | 0, _, hn => cases hn
        | 1, _, hn => exact absurd hn (fun h => m_call_go h)
        | 2, _, hn => exact absurd hn (fun h => m_call_go h)
        | d + 3, _, hn => cases hn
      | none =>
        rw [h4] at hn
        obtain ⟨f, h5, hn⟩ := Option.bind_eq_some_iff.mp hn
        split at hn
        · obtain ⟨⟨n, r0⟩, h0, hn⟩ := Option.bind_eq_some_iff.mp hn
          obtain ⟨⟨dp, r1⟩, h1, hn⟩ := Option.bind_eq_some_iff.mp hn
          obtain ⟨⟨y, r2⟩, h2, hn⟩ := Option.bind_eq_some_iff.mp hn
          obtain ⟨⟨sp, r3⟩, h6, hn⟩ := Option.bind_eq_some_iff.mp hn
          obtain ⟨⟨x, r⟩, h7, hn⟩ := Option.bind_eq_some_iff.mp hn
          have h0 := m_pI_s h0
          have h1 := m_pI_s h1
          have h2 := m_pR_s h2
          have h6 := m_pI_s h6
          have h7 := m_pR_s h7
          dsimp only at h1 h2 h6 h7
          subst h7
          subst h6
          subst h2
          subst h1
          subst h0
          obtain ⟨hb, rfl, rfl, rfl, rfl⟩ := m_go_s hn
          obtain ⟨hb, hc⟩ := m_an hb
          obtain ⟨hb, hz⟩ := m_an hb
          obtain ⟨hdep, hsz⟩ := m_an hb
          obtain ⟨z1, hz⟩ := m_an hz
          obtain ⟨z2, z3⟩ := m_an hz
          obtain ⟨c1, hc⟩ := m_an hc
          obtain ⟨c2, hc⟩ := m_an hc
          obtain ⟨c3, c4⟩ := m_an hc
          have z1 := eq_of_beq z1
          have z2 := eq_of_beq z2
          have z3 := eq_of_beq z3
          dsimp only at z1 z2 z3
          subst z1
          subst z2
          subst z3
          have c1 := m_bq c1
          have c2 := m_bq c2
          intro ls H locs hl hP hM hS
          show W p l e R s m args below meth c H locs cells slots Q (F0 m pc ls (.int 5 :: .int 0 :: m_tv g (.ref y) :: .int 0 :: m_tv g (.ref x) :: _))
          rw [m_ref1 c1, m_ref1 c2]
          exact m_cpy_s C (hl.1.trans hpl) h5 (Nat.le_of_ble_eq_true hdep) (m_sz_le hsz) c4 c3 hd hP hM hS (fun H1 locs1 hP1 hM1 hS1 => k hpl ls H1 locs1 hl hP1 hM1 hS1)
        · obtain ⟨⟨d, r⟩, h0, hn⟩ := Option.bind_eq_some_iff.mp hn
          have h0 := m_pD_s h0
          subst h0
          obtain ⟨hb, rfl, rfl, rfl, rfl⟩ := m_go_s hn
          obtain ⟨hdep, hsz⟩ := m_an hb
          have hw := m_NAr h5
          have hdep := Nat.le_of_ble_eq_true hdep
          intro ls H locs hl hP hM hS
          exact vn_d2l hx hb9 (hml.trans (hpl.symm.trans hl.1.symm)) hown (hts _ (hw _ (by simp))) (hts _ (hw _ (by simp))) (hts _ (hw _ (by simp))) (hts _ (hw _ (by simp))) (by omega) (by have hz := m_sz_le (g := g) (r := r) hsz; omega) hd (k hpl ls H locs hl hP hM hS)
        · cases hn
  | invokevirtual q =>
    have hn : (match Nat.beq len 3 with
        | false => none
        | true => (m_look (m_CT (m_nth m_ownL X)) q).bind fun f => match f.2 with
          | 0 => m_call X f.1 pc true st
          | _ => none : Option m_Nx) = some (.inl (pc', pl', st', M')) := hn
    cases h3 : Nat.beq len 3 with
    | false => rw [h3] at hn; cases hn
    | true =>
      rw [h3] at hn
      obtain ⟨f, h5, hn⟩ := Option.bind_eq_some_iff.mp hn
      split at hn
      · exact absurd hn (fun h => m_call_go h)
      · cases hn
  | new q =>
    have hn : (match (generalizing := false) st with
        | [] => (m_look m_TS (X * 65536 + pc)).bind fun E => some (.inr (.inr (.inr E)))
        | _ => none : Option m_Nx) = some (.inl (pc', pl', st', M')) := hn
    split at hn
    · obtain ⟨f, h5, hn⟩ := Option.bind_eq_some_iff.mp hn
      cases hn
    · cases hn
  | ireturn =>
    have hn : (match (generalizing := false) st with
        | [.int x] => match Nat.beq len 1 && m_nok (m_nth m_rsL X) x with
          | true => some (.inr (.inr (.inl (some (.int x)))))
          | false => none
        | _ => none : Option m_Nx) = some (.inl (pc', pl', st', M')) := hn
    split at hn
    · split at hn <;> cases hn
    · cases hn
  | lreturn =>
    have hn : (match (generalizing := false) st with
        | [.long x] => match Nat.beq len 1 && Nat.beq (m_nth m_rsL X) 3 with
          | true => some (.inr (.inr (.inl (some (.long x)))))
          | false => none
        | _ => none : Option m_Nx) = some (.inl (pc', pl', st', M')) := hn
    split at hn
    · split at hn <;> cases hn
    · cases hn
  | dreturn =>
    have hn : (match (generalizing := false) st with
        | [.double x] => match Nat.beq len 1 && Nat.beq (m_nth m_rsL X) 4 with
          | true => some (.inr (.inr (.inl (some (.double x)))))
          | false => none
        | _ => none : Option m_Nx) = some (.inl (pc', pl', st', M')) := hn
    split at hn
    · split at hn <;> cases hn
    · cases hn
  | return_ =>
    have hn : (match (generalizing := false) st with
        | [] => match Nat.beq len 1 && Nat.beq (m_nth m_rsL X) 5 with
          | true => some (.inr (.inr (.inl none)))
          | false => none
        | _ => none : Option m_Nx) = some (.inl (pc', pl', st', M')) := hn
    split at hn
    · split at hn <;> cases hn
    · cases hn
  | _ => exact m_no (α := Nat) (show (none : Option m_Nx) = some _ from hn)
