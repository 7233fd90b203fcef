/-! THE HEAP that holds a memory: every place of m_DL is a cell. -/
/-- addresses of the places; class ids and slots; ids of array classes (1 int, 2 boolean, 3 char, 4 long, 5 .. 8 of objects); where the law's own cells begin; the script and its length -/
abbrev m_G : Type := (Nat → Nat → Nat → Nat) × va_G × (Nat → ClassId) × Nat × (Nat → Int32) × Nat
def m_rc (a : Nat) : Nat := match a with
  | 8 => 6
  | 9 => 7
  | 10 => 8
  | _ => 5
/-- the number of the array's class -/
def m_ac (a : Nat) : Nat := match m_at a with
  | 5 => m_rc a
  | t => t
def m_tys (g : m_G) : List (ClassId × FieldType) := (List.range 9).map (fun t => (g.2.2.1 (if t = 0 then 1 else t), m_rty (if t = 0 then 1 else t)))
theorem m_tys_at (g : m_G) {t : Nat} (h1 : 1 ≤ t) (h : t < 9) : (m_tys g)[t]? = some (g.2.2.1 t, m_rty t) := by
  unfold m_tys
  rw [List.getElem?_map, List.getElem?_range h]
  show some (g.2.2.1 (if t = 0 then 1 else t), m_rty (if t = 0 then 1 else t)) = _
  rw [if_neg (by omega)]
noncomputable def m_tv (g : m_G) : Value → Value
  | .ref x => .ref (g.1 (m_ka x) (m_kb x) (m_kc x))
  | v => v
noncomputable def m_en (g : m_G) (q : Nat × Nat × Nat) (f : Nat → Int32) : va_E := match m_at q.1 with
  | 0 => .inr (m_ci q.1, (List.range (m_n (m_ci q.1))).map (fun k => m_tv g (m_fv q.1 q.2.1 q.2.2 k (f k))))
  | 5 => .inl (g.2.2.1 (m_rc q.1), m_al q.1, .inr (.inr (.inr (.inr fun i => some (g.1 (m_ka (m_ra q.1 q.2.1 q.2.2 i (f i))) (m_kb (m_ra q.1 q.2.1 q.2.2 i (f i))) (m_kc (m_ra q.1 q.2.1 q.2.2 i (f i))))))))
  | t => .inl (g.2.2.1 t, m_al q.1, .inl f)
noncomputable def m_wl (g : m_G) (l : List (Nat × Nat × Nat)) (M : m_Mem) : va_W := l.map (fun q => (g.1 q.1 q.2.1 q.2.2, m_en g q (M q.1 q.2.1 q.2.2)))
noncomputable abbrev m_ws (g : m_G) (M : m_Mem) : va_W := m_wl g m_DL M
abbrev m_A (g : m_G) : Nat → Prop := fun q => g.2.2.2.1 ≤ q
abbrev m_P (g : m_G) (M : m_Mem) (H : Heap) : Prop := va_P g.2.1 vwCl (m_ws g M) H
/-- the places lie apart, in the law's own part of the heap -/
def m_ap (g : m_G) : Prop := va_D (m_A g) (m_ws g (fun _ _ _ _ => 0))
theorem m_wl_at {g : m_G} {l : List (Nat × Nat × Nat)} {M : m_Mem} {i : Nat} {q : Nat × Nat × Nat} (h : l[i]? = some q) : (m_wl g l M)[i]? = some (g.1 q.1 q.2.1 q.2.2, m_en g q (M q.1 q.2.1 q.2.2)) := by
  unfold m_wl
  rw [List.getElem?_map, h]
  rfl
theorem m_ap_D {g : m_G} (h : m_ap g) (M : m_Mem) : va_D (m_A g) (m_ws g M) := by
  have key : ∀ (i : Nat) (p : Nat × va_E), (m_ws g M)[i]? = some p → ∃ e, (m_ws g (fun _ _ _ _ => 0))[i]? = some (p.1, e) := by
    intro i p hp
    unfold m_ws m_wl at hp ⊢
    rw [List.getElem?_map] at hp ⊢
    cases hq : m_DL[i]? with
    | none => rw [hq] at hp; cases hp
    | some q =>
      rw [hq] at hp
      cases hp
      exact ⟨_, rfl⟩
  constructor
  · intro i j p q hp hq e
    obtain ⟨e1, h1⟩ := key i p hp
    obtain ⟨e2, h2⟩ := key j q hq
    exact h.1 i j _ _ h1 h2 e
  · intro k q hq
    obtain ⟨e1, h1⟩ := key k q hq
    exact h.2 k (q.1, e1) h1
/-- another memory at one place -/
theorem m_wl_set {g : m_G} {l : List (Nat × Nat × Nat)} {M M' : m_Mem} {i : Nat} {q : Nat × Nat × Nat} (hn : l.Nodup) (h : l[i]? = some q) (hm : ∀ p ∈ l, p ≠ q → M' p.1 p.2.1 p.2.2 = M p.1 p.2.1 p.2.2) {e : va_E} (he : e = m_en g q (M' q.1 q.2.1 q.2.2)) : (m_wl g l M).set i (g.1 q.1 q.2.1 q.2.2, e) = m_wl g l M' := by
  apply List.ext_getElem?
  intro j
  unfold m_wl
  rw [List.getElem?_set, List.getElem?_map, List.getElem?_map]
  have hi : i < l.length := (List.getElem?_eq_some_iff.mp h).1
  by_cases hj : i = j
  · subst hj
    rw [if_pos rfl, List.length_map, if_pos hi, h, he]
    rfl
  · rw [if_neg hj]
    cases hp : l[j]? with
    | none => rfl
    | some p =>
      have hpm : p ∈ l := List.mem_of_getElem? hp
      have hpq : p ≠ q := by
        intro e
        subst e
        exact hj ((List.getElem?_inj hi hn).mp (h.trans hp.symm))
      show some (g.1 p.1 p.2.1 p.2.2, m_en g p (M p.1 p.2.1 p.2.2)) = some (g.1 p.1 p.2.1 p.2.2, m_en g p (M' p.1 p.2.1 p.2.2))
      rw [hm p hpm hpq]
theorem m_set_o {M : m_Mem} {a b c k : Nat} {v : Int32} : ∀ p : Nat × Nat × Nat, p ≠ (a, b, c) → m_set M a b c k v p.1 p.2.1 p.2.2 = M p.1 p.2.1 p.2.2 := by
  intro p hp
  funext z
  unfold m_set
  rw [if_neg]
  rintro ⟨h1, h2, h3, -⟩
  exact hp (by rw [← h1, ← h2, ← h3])
theorem m_set_f {M : m_Mem} {a b c k : Nat} {v : Int32} : m_set M a b c k v a b c = upd (M a b c) k v := by
  funext z
  unfold m_set upd
  by_cases h : z = k
  · rw [if_pos ⟨rfl, rfl, rfl, h⟩, if_pos h]
  · rw [if_neg (fun q => h q.2.2.2), if_neg h]
/-- values of the tables' static arrays -/
def m_s24 : Nat → Int32 := fun j => match j with | 0 => 500 | 1 => 1 | 2 => 0 | 3 => 1 | _ => 1
def m_s25 : Nat → Int32 := fun j => match j with | 0 => 1000 | 1 => 999 | 2 => 50 | 3 => 30 | _ => 99
/-- what no program writes: the static arrays, the script -/
def m_Mst (g : m_G) (M : m_Mem) : Prop := (∀ j, j < 5 → M 24 0 0 j = m_s24 j) ∧ (∀ j, j < 5 → M 25 0 0 j = m_s25 j) ∧ (∀ i, i < g.2.2.2.2.2 → M 26 0 0 i = g.2.2.2.2.1 i) ∧ M 27 0 0 0 = nI g.2.2.2.2.2 ∧ g.2.2.2.2.2 < 2 ^ 31
/-- what holds of the machine and of the old heap, at every method's start -/
def m_Kst (g : m_G) (U : State) : Prop :=
  va_K g.2.1 vwCl (m_tys g) U ∧
  (va_X (g.1 26 0 0) g.2.2.2.2.2 g.2.2.2.2.1 U U.heap ∧ g.1 26 0 0 < U.heap.size ∧ ¬ m_A g (g.1 26 0 0)) ∧
  (va_Z "FineScrip" "LEAST_VALUES" "[I" (.ref (g.1 24 0 0)) (m_A g) U U.heap ∧ va_T .int (g.1 24 0 0) 5 (fun j => .int (m_s24 j)) (m_A g) U U.heap) ∧
  (va_Z "FineScrip" "MOST_VALUES" "[I" (.ref (g.1 25 0 0)) (m_A g) U U.heap ∧ va_T .int (g.1 25 0 0) 5 (fun j => .int (m_s25 j)) (m_A g) U U.heap) ∧
  (vx_Zq Bundle.tN "UNASSIGNED_STACK" Bundle.steD (m_A g) U U.heap ∧ vx_Zq Bundle.tN "SUPPRESSED_SENTINEL" Bundle.listD (m_A g) U U.heap) ∧
  (∀ w ∈ m_nests, va_Nw w U) ∧ (∀ e ∈ m_strs, ∃ a, vk_R e.1 e.2.1 e.2.2 a U) ∧ (∀ e ∈ m_ncs, va_Nc e.1 e.2 U)
theorem m_X_kept {b L : Nat} {xs : Nat → Int32} {u U : State} {H H1 : Heap} (hvm : u.vm.Alike U.vm) (h : va_X b L xs u H) (hq : H1[b]? = H[b]?) : va_X b L xs U H1 := by
  obtain ⟨scr, h1, h2, h3⟩ := h
  exact ⟨scr, by rw [hq]; exact h1, State.isArrayOf_alike hvm h2, h3⟩
/-- it holds in a callee's start, if it held in the caller's -/
theorem m_Kst_call {g : m_G} {s U : State} {H : Heap} {locs : List Loc} (h : m_Kst g s) (hS : va_S (m_A g) s.heap H locs) (hU : U.heap = H) (hW : s.WarmedH U.vm) : m_Kst g U := by
  obtain ⟨hK, ⟨hX, hb, hbA⟩, ⟨z1, t1⟩, ⟨z2, t2⟩, ⟨u1, u2⟩, hn, hs, hc⟩ := h
  have hvm := hW.alike
  have hk : ∀ a : Nat, a < s.heap.size → ¬ m_A g a → U.heap[a]? = s.heap[a]? := by rw [hU]; exact hS.2.1
  refine ⟨va_K.moved hvm hK, ⟨m_X_kept hvm hX (hk _ hb hbA), by rw [hU]; exact Nat.lt_of_lt_of_le hb hS.1, hbA⟩, ⟨va_Z.moved hvm (z1.kept hk), va_T.moved hvm (t1.kept hk)⟩, ⟨va_Z.moved hvm (z2.kept hk), va_T.moved hvm (t2.kept hk)⟩,
    ⟨vx_Zq.moved hvm (u1.kept hk), vx_Zq.moved hvm (u2.kept hk)⟩, ?_, ?_, ?_⟩
  · intro w hw
    exact m_nests_warm w hw hW (hn w hw)
  · intro e he
    obtain ⟨a, ha⟩ := hs e he
    exact ⟨a, vk_R.warm hW ha⟩
  · intro e he
    exact (hc e he).moved hvm
-- locals
def m_LR (g : m_G) (ls : Array Slot) (pl : List (Option Value)) : Prop := ls.size = pl.length ∧ lv_wf ls ∧ ∀ (j : Nat) (v : Value), m_lg pl j = some v → ls[j]? = some (.val (m_tv g v))
noncomputable def m_as (g : m_G) (pl : List (Option Value)) : List (Nat × Value) := (List.range pl.length).filterMap (fun j => (m_lg pl j).map (fun v => (j, m_tv g v)))
theorem m_lg_lt : ∀ {pl : List (Option Value)} {j : Nat} {v : Value}, m_lg pl j = some v → j < pl.length
  | [], j, v, h => by cases h
  | o :: t, 0, v, h => Nat.zero_lt_succ _
  | o :: t, j + 1, v, h => Nat.succ_lt_succ (m_lg_lt (pl := t) h)
theorem m_as_mem {g : m_G} {pl : List (Option Value)} {q : Nat × Value} : q ∈ m_as g pl ↔ ∃ v, m_lg pl q.1 = some v ∧ q.2 = m_tv g v := by
  unfold m_as
  rw [List.mem_filterMap]
  constructor
  · rintro ⟨j, -, hj⟩
    cases hv : m_lg pl j with
    | none => rw [hv] at hj; cases hj
    | some v =>
      rw [hv] at hj
      cases hj
      exact ⟨v, hv, rfl⟩
  · rintro ⟨v, hv, e⟩
    refine ⟨q.1, List.mem_range.mpr (m_lg_lt hv), ?_⟩
    rw [hv]
    obtain ⟨a, b⟩ := q
    cases e
    rfl
theorem m_LR_has {g : m_G} {ls : Array Slot} {pl : List (Option Value)} (h : m_LR g ls pl) : lv_has ls pl.length (m_as g pl) := by
  refine ⟨h.1, h.2.1, fun q hq => ?_⟩
  obtain ⟨v, hv, e⟩ := m_as_mem.mp hq
  rw [e]
  exact h.2.2 _ _ hv
theorem m_tv_cat (g : m_G) (v : Value) : (m_tv g v).category = v.category := by cases v <;> rfl
theorem m_put_len : ∀ (pl : List (Option Value)) (i : Nat) (x : Option Value), (m_put pl i x).length = pl.length
  | [], _, _ => rfl
  | _ :: t, 0, x => rfl
  | o :: t, n + 1, x => by show (m_put t n x).length + 1 = t.length + 1; rw [m_put_len t n x]
theorem m_st1_len : ∀ (pl : List (Option Value)) (i : Nat) (v : Value), (m_st1 pl i v).length = pl.length
  | [], _, _ => by unfold m_st1; rfl
  | _ :: t, 0, v => by unfold m_st1; rfl
  | o :: [], _ + 1, _ => by unfold m_st1; rfl
  | o :: _ :: t, 1, v => by unfold m_st1; rfl
  | o :: p :: t, n + 2, v => by
    unfold m_st1
    rw [List.length_cons, m_st1_len (p :: t) (n + 1) v]
    rfl
theorem m_kill_s {o : Option Value} {w : Value} (h : m_kill o = some w) : o = some w ∧ ¬ w.category = 2 := by
  unfold m_kill at h
  split at h
  · cases h
  · cases h
  · rename_i h1 h2
    subst h
    refine ⟨rfl, ?_⟩
    cases w <;> first | (intro e; cases e; done) | exact (h1 _ rfl).elim | exact (h2 _ rfl).elim
theorem m_st1_lg : ∀ (pl : List (Option Value)) (i : Nat) (v : Value) (j : Nat) (w : Value), i < pl.length → m_lg (m_st1 pl i v) j = some w → (j = i ∧ w = v) ∨ (j ≠ i ∧ m_lg pl j = some w ∧ ¬ (j + 1 = i ∧ w.category = 2))
  | [], i, v, j, w, _, h => by unfold m_st1 at h; cases h
  | o :: t, 0, v, j, w, _, h => by
    unfold m_st1 at h
    cases j with
    | zero => cases h; exact Or.inl ⟨rfl, rfl⟩
    | succ j => exact Or.inr ⟨by omega, h, fun q => by omega⟩
  | o :: [], i + 1, v, j, w, hi, h => absurd hi (by simp only [List.length_cons, List.length_nil]; omega)
  | o :: p :: t, 1, v, j, w, _, h => by
    unfold m_st1 at h
    cases j with
    | zero =>
      obtain ⟨h1, h2⟩ := m_kill_s h
      exact Or.inr ⟨by omega, h1, fun q => h2 q.2⟩
    | succ j =>
      cases j with
      | zero => cases h; exact Or.inl ⟨rfl, rfl⟩
      | succ j => exact Or.inr ⟨by omega, h, fun q => by omega⟩
  | o :: p :: t, i + 2, v, j, w, hi, h => by
    unfold m_st1 at h
    cases j with
    | zero => exact Or.inr ⟨by omega, h, fun q => by omega⟩
    | succ j =>
      rcases m_st1_lg (p :: t) (i + 1) v j w (by simp only [List.length_cons] at hi ⊢; omega) h with ⟨h1, h2⟩ | ⟨h1, h2, h3⟩
      · exact Or.inl ⟨by omega, h2⟩
      · exact Or.inr ⟨by omega, h2, fun q => h3 ⟨by omega, q.2⟩⟩
theorem m_put_lg : ∀ (pl : List (Option Value)) (i j : Nat) (w : Value), m_lg (m_put pl i none) j = some w → j ≠ i ∧ m_lg pl j = some w
  | [], i, j, w, h => by cases h
  | o :: t, 0, j, w, h => by
    cases j with
    | zero => cases h
    | succ j => exact ⟨by omega, h⟩
  | o :: t, i + 1, j, w, h => by
    cases j with
    | zero => exact ⟨by omega, h⟩
    | succ j =>
      obtain ⟨h1, h2⟩ := m_put_lg t i j w h
      exact ⟨by omega, h2⟩
