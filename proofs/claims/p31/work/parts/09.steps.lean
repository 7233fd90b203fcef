/-! ONE STEP IS ONE of the machine's: where the pure machine goes from (pc, pl, st, M) to another state, the machine comes there. -/
abbrev m_Go (g : m_G) (p : Program) (l : Launch) (e : Env) (R : Room) (s : State) (m : MethodId) (args : Array Value) (below : List Frame) (meth : Method) (c : Code) (cells slots : Nat) (Q : State → Prop) (pc : Nat) (pl : List (Option Value)) (st : List Value) (M : m_Mem) : Prop :=
  ∀ (ls : Array Slot) (H : Heap) (locs : List Loc), m_LR g ls pl → m_P g M H → m_Mst g M → va_S (m_A g) s.heap H locs → W p l e R s m args below meth c H locs cells slots Q (F0 m pc ls (st.map (m_tv g)))
/-- what is known of the method X in its frame -/
def m_C (g : m_G) (X : Nat) (p : Program) (l : Launch) (R : Room) (s : State) (m : MethodId) (args : Array Value) (meth : Method) (c : Code) : Prop :=
  p.tables.exec = Jvm.exec ∧ c.code = m_code X ∧ c.maxLocals = m_nth m_mlL X ∧ s.vm.findClass (m_cn (m_nth m_ownL X)) = some m.cls ∧ (∀ w ∈ lw_g, w.before args s = true) ∧ (m_nth m_depL X ≤ R.frames ∧ 40 * m_nth m_depL X ≤ R.locals) ∧ c.exceptionTable.toList = tableOf (m_hh X) ∧ l.stackTraces = false ∧ m_Kst g s ∧ m_ap g ∧ meth.locks = false
theorem m_go_s {b : Bool} {pc pc' : Nat} {pl pl' : List (Option Value)} {st st' : List Value} {M M' : m_Mem} (h : m_go b pc pl st M = some (.inl (pc', pl', st', M'))) : b = true ∧ pc' = pc ∧ pl' = pl ∧ st' = st ∧ M' = M := by
  unfold m_go at h
  cases b with
  | false => cases h
  | true => cases h; exact ⟨rfl, rfl, rfl, rfl, rfl⟩
theorem m_go_n {b : Bool} {pc : Nat} {pl : List (Option Value)} {st : List Value} {M : m_Mem} {z} (h : m_go b pc pl st M = some (.inr z)) : False := by
  unfold m_go at h
  cases b <;> cases h
theorem m_bq {a b : Nat} (h : Nat.beq a b = true) : a = b := Nat.eq_of_beq_eq_true h
theorem m_an {a b : Bool} (h : (a && b) = true) : a = true ∧ b = true := Bool.and_eq_true_iff.mp h
theorem m_dec_s {X pc : Nat} {r : Instr × Nat} (h : m_dec X pc = some r) : decode (m_code X) pc = .ok r := by
  unfold m_dec at h
  split at h
  · rename_i r' h'
    cases h
    exact h'
  · cases h
theorem m_tk_s {pc : Nat} {o : Int} (h : m_tk pc o = true) : (pc : Int) + o = (m_tg pc o : Nat) := by
  have h1 : 0 ≤ (pc : Int) + o := of_decide_eq_true h
  unfold m_tg
  omega
section STEPS
variable {g : m_G} {X : Nat} {p : Program} {l : Launch} {e : Env} {R : Room} {s : State} {m : MethodId} {args : Array Value} {below : List Frame} {meth : Method} {c : Code} {cells slots : Nat} {Q : State → Prop} {pc pc' : Nat} {pl pl' : List (Option Value)} {st st' : List Value} {M M' : m_Mem}
-- pushes
theorem m_push {len : Nat} {b : Bool} {v : Value} (hn : m_go b (pc + len) pl (v :: st) M = some (.inl (pc', pl', st', M'))) (k : m_Go g p l e R s m args below meth c cells slots Q pc' pl' st' M')
    (row : b = true → ∀ (ls : Array Slot) (H : Heap) (locs : List Loc), m_LR g ls pl → W p l e R s m args below meth c H locs cells slots Q (F0 m (pc + len) ls (m_tv g v :: st.map (m_tv g))) → W p l e R s m args below meth c H locs cells slots Q (F0 m pc ls (st.map (m_tv g)))) : m_Go g p l e R s m args below meth c cells slots Q pc pl st M := by
  obtain ⟨hb, rfl, rfl, rfl, rfl⟩ := m_go_s hn
  intro ls H locs hl hP hM hS
  exact row hb ls H locs hl (k ls H locs hl hP hM hS)
theorem m_st1_LR {ls' : Array Slot} {i : Nat} {v : Value} (hi : i < pl.length) (h : lv_has ls' pl.length ((i, m_tv g v) :: (m_as g pl).filter (fun q => !(q.1 == i) && !(q.1 + 1 == i && q.2.category == 2)))) : m_LR g ls' (m_st1 pl i v) := by
  refine ⟨h.1.trans (m_st1_len pl i v).symm, h.2.1, fun j w hj => ?_⟩
  rcases m_st1_lg pl i v j w hi hj with ⟨rfl, rfl⟩ | ⟨h1, h2, h3⟩
  · exact h.2.2 (j, m_tv g w) List.mem_cons_self
  · refine h.2.2 (j, m_tv g w) (List.mem_cons_of_mem _ (List.mem_filter.mpr ⟨m_as_mem.mpr ⟨w, h2, rfl⟩, ?_⟩))
    have e1 : (j == i) = false := beq_eq_false_iff_ne.mpr h1
    have e2 : (j + 1 == i && (m_tv g w).category == 2) = false := by
      rw [m_tv_cat]
      cases hq : (j + 1 == i && w.category == 2) with
      | false => rfl
      | true =>
        obtain ⟨q1, q2⟩ := m_an hq
        exact absurd ⟨eq_of_beq q1, eq_of_beq q2⟩ h3
    simp only [e1, e2]
    rfl
theorem m_st2_LR {ls' : Array Slot} {i : Nat} {v : Value} (hi : i + 1 < pl.length) (h : lv_has ls' pl.length ((i, m_tv g v) :: (m_as g pl).filter (fun q => !(q.1 == i) && (!(q.1 == i + 1) && !(q.1 + 1 == i && q.2.category == 2))))) : m_LR g ls' (m_st2 pl i v) := by
  refine ⟨h.1.trans ((m_put_len _ _ _).trans (m_st1_len pl i v)).symm, h.2.1, fun j w hj => ?_⟩
  obtain ⟨h4, hj⟩ := m_put_lg _ _ _ _ hj
  rcases m_st1_lg pl i v j w (by omega) hj with ⟨rfl, rfl⟩ | ⟨h1, h2, h3⟩
  · exact h.2.2 (j, m_tv g w) List.mem_cons_self
  · refine h.2.2 (j, m_tv g w) (List.mem_cons_of_mem _ (List.mem_filter.mpr ⟨m_as_mem.mpr ⟨w, h2, rfl⟩, ?_⟩))
    have e1 : (j == i) = false := beq_eq_false_iff_ne.mpr h1
    have e3 : (j == i + 1) = false := beq_eq_false_iff_ne.mpr h4
    have e2 : (j + 1 == i && (m_tv g w).category == 2) = false := by
      rw [m_tv_cat]
      cases hq : (j + 1 == i && w.category == 2) with
      | false => rfl
      | true =>
        obtain ⟨q1, q2⟩ := m_an hq
        exact absurd ⟨eq_of_beq q1, eq_of_beq q2⟩ h3
    simp only [e1, e2, e3]
    rfl
-- conditions
theorem m_c1_s {len : Nat} {c0 : Jvm.ClassFile.Cond} {x : Int32} {o : Int} {ls : Array Slot} {H : Heap} {locs : List Loc} {cc : ByteArray} {rest : List Value} (hx : p.tables.exec = Jvm.exec) (hb : c.code = cc) (hd : decode cc pc = .ok (.ifCond c0 o, 3)) (ht : m_tk pc o = true)
    (k : W p l e R s m args below meth c H locs cells slots Q (F0 m (m_c1 c0 x (m_tg pc o) (pc + 3)) ls rest)) : W p l e R s m args below meth c H locs cells slots Q (F0 m pc ls (.int x :: rest)) := by
  have ht := m_tk_s ht
  cases c0 with
  | eq => exact lv_if_eq hx hb hd ht (fun h => by rw [show m_c1 .eq x (m_tg pc o) (pc + 3) = if x = 0 then m_tg pc o else pc + 3 from rfl, if_pos h] at k; exact k) (fun h => by rw [show m_c1 .eq x (m_tg pc o) (pc + 3) = if x = 0 then m_tg pc o else pc + 3 from rfl, if_neg h] at k; exact k)
  | ne => exact lv_if_ne hx hb hd ht (fun h => by rw [show m_c1 .ne x (m_tg pc o) (pc + 3) = if x = 0 then pc + 3 else m_tg pc o from rfl, if_neg h] at k; exact k) (fun h => by rw [show m_c1 .ne x (m_tg pc o) (pc + 3) = if x = 0 then pc + 3 else m_tg pc o from rfl, if_pos h] at k; exact k)
  | lt => exact lv_if_lt hx hb hd ht (fun h => by rw [show m_c1 .lt x (m_tg pc o) (pc + 3) = if x < 0 then m_tg pc o else pc + 3 from rfl, if_pos h] at k; exact k) (fun h => by rw [show m_c1 .lt x (m_tg pc o) (pc + 3) = if x < 0 then m_tg pc o else pc + 3 from rfl, if_neg h] at k; exact k)
  | ge => exact lv_if_ge hx hb hd ht (fun h => by rw [show m_c1 .ge x (m_tg pc o) (pc + 3) = if 0 ≤ x then m_tg pc o else pc + 3 from rfl, if_pos h] at k; exact k) (fun h => by rw [show m_c1 .ge x (m_tg pc o) (pc + 3) = if 0 ≤ x then m_tg pc o else pc + 3 from rfl, if_neg h] at k; exact k)
  | gt => exact lv_if_gt hx hb hd ht (fun h => by rw [show m_c1 .gt x (m_tg pc o) (pc + 3) = if 0 < x then m_tg pc o else pc + 3 from rfl, if_pos h] at k; exact k) (fun h => by rw [show m_c1 .gt x (m_tg pc o) (pc + 3) = if 0 < x then m_tg pc o else pc + 3 from rfl, if_neg h] at k; exact k)
  | le => exact lv_if_le hx hb hd ht (fun h => by rw [show m_c1 .le x (m_tg pc o) (pc + 3) = if x ≤ 0 then m_tg pc o else pc + 3 from rfl, if_pos h] at k; exact k) (fun h => by rw [show m_c1 .le x (m_tg pc o) (pc + 3) = if x ≤ 0 then m_tg pc o else pc + 3 from rfl, if_neg h] at k; exact k)
theorem m_c2_s {c0 : Jvm.ClassFile.Cond} {x y : Int32} {o : Int} {ls : Array Slot} {H : Heap} {locs : List Loc} {cc : ByteArray} {rest : List Value} (hx : p.tables.exec = Jvm.exec) (hb : c.code = cc) (hd : decode cc pc = .ok (.if_icmp c0 o, 3)) (ht : m_tk pc o = true)
    (k : W p l e R s m args below meth c H locs cells slots Q (F0 m (m_c2 c0 x y (m_tg pc o) (pc + 3)) ls rest)) : W p l e R s m args below meth c H locs cells slots Q (F0 m pc ls (.int y :: .int x :: rest)) := by
  have ht := m_tk_s ht
  cases c0 with
  | eq => exact lv_icmp_eq hx hb hd ht (fun h => by rw [show m_c2 .eq x y (m_tg pc o) (pc + 3) = if x = y then m_tg pc o else pc + 3 from rfl, if_pos h] at k; exact k) (fun h => by rw [show m_c2 .eq x y (m_tg pc o) (pc + 3) = if x = y then m_tg pc o else pc + 3 from rfl, if_neg h] at k; exact k)
  | ne => exact lv_icmp_ne hx hb hd ht (fun h => by rw [show m_c2 .ne x y (m_tg pc o) (pc + 3) = if x = y then pc + 3 else m_tg pc o from rfl, if_neg h] at k; exact k) (fun h => by rw [show m_c2 .ne x y (m_tg pc o) (pc + 3) = if x = y then pc + 3 else m_tg pc o from rfl, if_pos h] at k; exact k)
  | lt => exact lv_icmp_lt hx hb hd ht (fun h => by rw [show m_c2 .lt x y (m_tg pc o) (pc + 3) = if x < y then m_tg pc o else pc + 3 from rfl, if_pos h] at k; exact k) (fun h => by rw [show m_c2 .lt x y (m_tg pc o) (pc + 3) = if x < y then m_tg pc o else pc + 3 from rfl, if_neg h] at k; exact k)
  | ge => exact lv_icmp_ge hx hb hd ht (fun h => by rw [show m_c2 .ge x y (m_tg pc o) (pc + 3) = if y ≤ x then m_tg pc o else pc + 3 from rfl, if_pos h] at k; exact k) (fun h => by rw [show m_c2 .ge x y (m_tg pc o) (pc + 3) = if y ≤ x then m_tg pc o else pc + 3 from rfl, if_neg h] at k; exact k)
  | gt => exact lv_icmp_gt hx hb hd ht (fun h => by rw [show m_c2 .gt x y (m_tg pc o) (pc + 3) = if y < x then m_tg pc o else pc + 3 from rfl, if_pos h] at k; exact k) (fun h => by rw [show m_c2 .gt x y (m_tg pc o) (pc + 3) = if y < x then m_tg pc o else pc + 3 from rfl, if_neg h] at k; exact k)
  | le => exact lv_icmp_le hx hb hd ht (fun h => by rw [show m_c2 .le x y (m_tg pc o) (pc + 3) = if x ≤ y then m_tg pc o else pc + 3 from rfl, if_pos h] at k; exact k) (fun h => by rw [show m_c2 .le x y (m_tg pc o) (pc + 3) = if x ≤ y then m_tg pc o else pc + 3 from rfl, if_neg h] at k; exact k)
-- switches
theorem m_sw_s {x : Int32} : ∀ (os : List Int) (lo : Int) (d : Nat), m_swk pc lo os = true →
    (∃ (i : Nat) (o : Int), os[i]? = some o ∧ x.toInt = lo + i ∧ (pc : Int) + o = (m_sw pc x lo os d : Nat)) ∨ ((∀ i : Nat, i < os.length → x.toInt ≠ lo + i) ∧ m_sw pc x lo os d = d)
  | [], lo, d, _ => Or.inr ⟨fun i hi => absurd hi (Nat.not_lt_zero _), rfl⟩
  | o :: t, lo, d, h => by
    unfold m_swk at h
    obtain ⟨h12, h3⟩ := m_an h
    obtain ⟨h1, h2⟩ := m_an h12
    have h2 : (Int32.ofInt lo).toInt = lo := eq_of_beq h2
    unfold m_sw
    by_cases hx : x = Int32.ofInt lo
    · rw [if_pos hx]
      exact Or.inl ⟨0, o, rfl, by rw [hx, h2]; omega, m_tk_s h1⟩
    · rw [if_neg hx]
      have hne : x.toInt ≠ lo := fun q => hx (by rw [← q]; exact (Int32.ofInt_toInt x).symm)
      rcases m_sw_s t (lo + 1) d h3 with ⟨i, o2, e1, e2, e3⟩ | ⟨e1, e2⟩
      · exact Or.inl ⟨i + 1, o2, e1, by omega, e3⟩
      · refine Or.inr ⟨fun i hi => ?_, e2⟩
        cases i with
        | zero => omega
        | succ i =>
          have := e1 i (by simpa using hi)
          omega
theorem m_ls_s {x : Int32} : ∀ (ps : List (Int × Int)) (d : Int), m_lsk pc ps = true → m_tk pc d = true → (pc : Int) + Op.lookupswitch.offset ps d x.toInt = (m_ls pc x ps (m_tg pc d) : Nat)
  | [], d, _, hd => m_tk_s hd
  | (k, o) :: t, d, h, hd => by
    unfold m_lsk at h
    obtain ⟨h12, h3⟩ := m_an h
    obtain ⟨h1, h2⟩ := m_an h12
    have h2 : (Int32.ofInt k).toInt = k := eq_of_beq h2
    unfold m_ls
    by_cases hx : x = Int32.ofInt k
    · rw [if_pos hx]
      have e : Op.lookupswitch.offset ((k, o) :: t) d x.toInt = o := by
        rw [hx, h2]
        simp [Op.lookupswitch.offset]
      rw [e]
      exact m_tk_s h1
    · rw [if_neg hx, lv_osw hx h2]
      exact m_ls_s t d h3 hd
end STEPS
