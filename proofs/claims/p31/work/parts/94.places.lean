/-! WHERE THE PLACES LIE: the addresses of what the constructors made. -/
def j_cs (u : j_S5) : List (Nat × j_S0) := (j_S5.cp u, j_S5.u0 u) :: (j_S5.L u ++ j_S5.V u)
def j_c (u : j_S5) (j : Nat) : Nat × j_S0 := (j_cs u).getD j (0, (0, 0, 0, 0, 0, [], [], []))
abbrev j_S6 : Type := Nat × Nat × Nat × Nat
abbrev j_S6.ga (u : j_S6) : Nat := u.1
abbrev j_S6.da (u : j_S6) : Nat := u.2.1
abbrev j_S6.la (u : j_S6) : Nat := u.2.2.1
abbrev j_S6.ba (u : j_S6) : Nat := u.2.2.2
def j_ad (b5 : Nat) (u : j_S5) (v : j_S6) (t24 t25 bS : Nat) : Nat → Nat → Nat → Nat := fun a b c => match a with
  | 1 => b5
  | 2 => j_S5.sl u
  | 3 => j_S5.tk u
  | 4 => j_S5.sv u
  | 5 => j_S5.t u
  | 6 => j_S5.q u
  | 7 => (j_c u b).1
  | 8 => j_S0.aD (j_c u b).2
  | 9 => j_S0.aC (j_c u b).2
  | 10 => j_S0.aB (j_c u b).2
  | 11 => j_S0.st (j_c u b).2
  | 12 => (j_S0.LD (j_c u b).2).getD c 0
  | 13 => (j_S0.LC (j_c u b).2).getD c 0
  | 14 => if c = 12 then j_S0.lo (j_c u b).2 else (j_S0.LB (j_c u b).2).getD c 0
  | 16 => j_S6.ga v
  | 17 => j_S6.da v
  | 18 => j_S6.la v
  | 19 => j_S6.ba v
  | 24 => t24
  | 25 => t25
  | 26 => bS
  | _ => 0
/-- the law's own arrays -/
def j_W6 (ca : Nat → ClassId) (v : j_S6) : va_W := [e_Z ca (j_S6.ga v) 1 13, e_Z ca (j_S6.da v) 1 64, e_Z ca (j_S6.la v) 1 60, e_Z ca (j_S6.ba v) 1 36]
def j_wd (ca : Nat → ClassId) (b5 : Nat) (u : j_S5) (v : j_S6) : va_W := j_W5 ca b5 u ++ j_W6 ca v
theorem j_gd {α : Type} (L : List α) (d : α) {n : Nat} (h : L.length = n) : (List.range n).map (fun i => L.getD i d) = L := by
  apply List.ext_getElem?
  intro i
  rw [List.getElem?_map]
  by_cases hi : i < n
  · rw [List.getElem?_range hi]
    show some (L.getD i d) = L[i]?
    rw [List.getD_eq_getElem?_getD]
    cases hx : L[i]? with
    | none => exact absurd (List.getElem?_eq_none_iff.mp hx) (by omega)
    | some x => rfl
  · rw [List.getElem?_eq_none (by simp; omega), List.getElem?_eq_none (by omega)]
    rfl
theorem j_gd_at {α : Type} (L : List α) (d : α) {i : Nat} (h : i < L.length) : L[i]? = some (L.getD i d) := by
  rw [List.getD_eq_getElem?_getD]
  cases hx : L[i]? with
  | none => exact absurd (List.getElem?_eq_none_iff.mp hx) (by omega)
  | some x => rfl
theorem j_gd_in {α : Type} (L : List α) (d : α) {i : Nat} (h : i < L.length) : L.getD i d ∈ L := List.mem_of_getElem? (j_gd_at L d h)
theorem j_cs_len {u : j_S5} (h : j_S5.ok u) : (j_cs u).length = 9 := by
  unfold j_cs
  rw [List.length_cons, List.length_append, h.2.1.1, h.2.2.1]
theorem j_cs_ok {u : j_S5} (h : j_S5.ok u) : ∀ x ∈ j_cs u, j_S0.ok x.2 := by
  intro x hx
  rcases List.mem_cons.mp hx with e | hx
  · rw [e]
    exact h.1
  · rcases List.mem_append.mp hx with hx | hx
    · exact h.2.1.2 x hx
    · exact h.2.2.2 x hx
theorem j_c_in {u : j_S5} (h : j_S5.ok u) {b : Nat} (hb : b < 9) : j_c u b ∈ j_cs u := j_gd_in _ _ (by rw [j_cs_len h]; exact hb)
theorem j_c_ok {u : j_S5} (h : j_S5.ok u) {b : Nat} (hb : b < 9) : j_S0.ok (j_c u b).2 := j_cs_ok h _ (j_c_in h hb)
theorem j_c_L {u : j_S5} (h : j_S5.ok u) {i : Nat} (hi : i < 2) : (j_S5.L u)[i]? = some (j_c u (1 + i)) := by
  have h1 := j_gd_at (j_cs u) (0, (0, 0, 0, 0, 0, [], [], [])) (i := 1 + i) (by rw [j_cs_len h]; omega)
  unfold j_c
  rw [← h1]
  unfold j_cs
  rw [Nat.add_comm, List.getElem?_cons_succ, List.getElem?_append_left (by rw [h.2.1.1]; exact hi)]
theorem j_c_V {u : j_S5} (h : j_S5.ok u) {i : Nat} (hi : i < 6) : (j_S5.V u)[i]? = some (j_c u (3 + i)) := by
  have h1 := j_gd_at (j_cs u) (0, (0, 0, 0, 0, 0, [], [], [])) (i := 3 + i) (by rw [j_cs_len h]; omega)
  unfold j_c
  rw [← h1]
  unfold j_cs
  rw [show 3 + i = (2 + i) + 1 by omega, List.getElem?_cons_succ, List.getElem?_append_right (by rw [h.2.1.1]; omega), h.2.1.1, show 2 + i - 2 = i by omega]
-- the camps' cells are in the world
theorem j_W0_in {ca : Nat → ClassId} {b5 : Nat} {u : j_S5} {x : Nat × j_S0} (hx : x ∈ j_cs u) : ∀ y ∈ j_W0 ca x.1 x.2, y ∈ j_W5 ca b5 u := by
  intro y hy
  unfold j_W5 j_fl
  rcases List.mem_cons.mp hx with e | hx
  · rw [e] at hy
    exact List.mem_cons_of_mem _ (List.mem_cons_of_mem _ (List.mem_append_left _ (List.mem_cons_of_mem _ (List.mem_append_left _ (List.mem_append_left _ (List.mem_append_left _ hy))))))
  · rcases List.mem_append.mp hx with hx | hx
    · exact List.mem_cons_of_mem _ (List.mem_cons_of_mem _ (List.mem_append_left _ (List.mem_cons_of_mem _ (List.mem_append_right _ (List.mem_flatMap_of_mem hx hy)))))
    · exact List.mem_cons_of_mem _ (List.mem_cons_of_mem _ (List.mem_append_right _ (List.mem_flatMap_of_mem hx hy)))
-- addresses
def j_B (x : Nat × j_S0) : List Nat := x.1 :: j_S0.aD x.2 :: j_S0.aC x.2 :: j_S0.aB x.2 :: j_S0.lo x.2 :: j_S0.st x.2 :: ((j_S0.LD x.2 ++ j_S0.LC x.2) ++ j_S0.LB x.2)
theorem j_W0_fst (ca : Nat → ClassId) (x : Nat × j_S0) : (j_W0 ca x.1 x.2).map (·.1) = j_B x := by
  have eD : ∀ L : List Nat, (L.map e_D).map (·.1) = L := fun L => by rw [List.map_map]; exact List.map_id' L
  have eC : ∀ L : List Nat, (L.map e_C).map (·.1) = L := fun L => by rw [List.map_map]; exact List.map_id' L
  have eG : ∀ L : List Nat, (L.map e_G).map (·.1) = L := fun L => by rw [List.map_map]; exact List.map_id' L
  unfold j_W0 j_B
  rw [List.map_cons, List.map_cons, List.map_cons, List.map_cons, List.map_cons, List.map_cons, List.map_append, List.map_append, List.map_append, eD, eC, eG, List.map_nil, List.nil_append]
  rfl
def j_F (b5 : Nat) (u : j_S5) (v : j_S6) : List Nat :=
  (b5 :: j_S5.sv u :: ((j_S5.sl u :: (((j_B (j_S5.cp u, j_S5.u0 u) ++ [j_S5.t u, j_S5.q u]) ++ [j_S5.tk u]) ++ (j_S5.L u).flatMap j_B)) ++ (j_S5.V u).flatMap j_B)) ++ [j_S6.ga v, j_S6.da v, j_S6.la v, j_S6.ba v]
theorem j_wd_fst (ca : Nat → ClassId) (b5 : Nat) (u : j_S5) (v : j_S6) : (j_wd ca b5 u v).map (·.1) = j_F b5 u v := by
  have e0 := j_W0_fst ca (j_S5.cp u, j_S5.u0 u)
  have eL : ∀ L : List (Nat × j_S0), (j_fl ca L).map (·.1) = L.flatMap j_B := fun L => by
    unfold j_fl
    rw [List.map_flatMap]
    congr 1
    funext x
    exact j_W0_fst ca x
  dsimp only at e0
  unfold j_wd j_F j_W5 j_W6
  rw [List.map_append, List.map_cons, List.map_cons, List.map_append, List.map_cons, List.map_append, List.map_append, List.map_append, eL, eL, e0]
  rfl
def j_G (x : Nat × j_S0) : List Nat := [x.1, j_S0.aD x.2, j_S0.aC x.2, j_S0.aB x.2, j_S0.st x.2] ++ (j_S0.LD x.2 ++ (j_S0.LC x.2 ++ (j_S0.LB x.2 ++ [j_S0.lo x.2])))
theorem j_G_B (x : Nat × j_S0) (a : Nat) : (j_G x).count a = (j_B x).count a := by
  unfold j_G j_B
  simp only [List.count_append, List.count_cons, List.count_nil]
  omega
theorem j_fm {α : Type} (L : List α) (d : α) {n : Nat} (h : L.length = n) (f : α → List Nat) : (List.range n).flatMap (fun i => f (L.getD i d)) = L.flatMap f := by
  rw [← List.flatMap_map (fun i => L.getD i d) f, j_gd L d h]
theorem j_DL_ad (b5 : Nat) {u : j_S5} (hu : j_S5.ok u) (v : j_S6) (t24 t25 bS : Nat) :
    m_DL.map (fun q => j_ad b5 u v t24 t25 bS q.1 q.2.1 q.2.2) = [b5, j_S5.sl u, j_S5.tk u, j_S5.sv u, j_S5.t u, j_S5.q u, j_S6.ga v, j_S6.da v, j_S6.la v, j_S6.ba v] ++ (j_cs u).flatMap j_G := by
  unfold m_DL
  rw [List.map_append, List.map_flatMap]
  congr 1
  rw [← j_fm (j_cs u) (0, (0, 0, 0, 0, 0, [], [], [])) (j_cs_len hu) j_G]
  rw [List.flatMap_def, List.flatMap_def]
  congr 1
  apply List.map_congr_left
  intro b hb
  have hb := List.mem_range.mp hb
  obtain ⟨h1, h2, h3⟩ := j_c_ok hu hb
  show List.map _ (_ ++ (_ ++ (_ ++ _))) = j_G (j_c u b)
  unfold j_G
  rw [List.map_append, List.map_append, List.map_append, List.map_map, List.map_map, List.map_map]
  have e1 : (List.range 8).map (fun i => (j_S0.LD (j_c u b).2).getD i 0) = _ := j_gd _ 0 h1
  have e2 : (List.range 10).map (fun i => (j_S0.LC (j_c u b).2).getD i 0) = _ := j_gd _ 0 h2
  have e3 : (List.range 12).map (fun i => (j_S0.LB (j_c u b).2).getD i 0) = _ := j_gd _ 0 h3
  have e4 : (List.range 13).map (fun c => if c = 12 then j_S0.lo (j_c u b).2 else (j_S0.LB (j_c u b).2).getD c 0) = j_S0.LB (j_c u b).2 ++ [j_S0.lo (j_c u b).2] := by
    rw [List.range_succ, List.map_append, ← e3]
    congr 1
  have hh : ∀ {a b c a' b' c' h : List Nat}, a = a' → b = b' → c = c' → h ++ (a ++ (b ++ c)) = h ++ (a' ++ (b' ++ c')) := by
    intro a b c a' b' c' h q1 q2 q3
    rw [q1, q2, q3]
  exact hh e1 e2 e4
theorem j_nodup {A : Nat → Prop} {W : va_W} (h : va_D A W) : (W.map (·.1)).Nodup := by
  rw [List.nodup_iff_pairwise_ne, List.pairwise_iff_getElem]
  intro i j hi hj hij e
  rw [List.length_map] at hi hj
  rw [List.getElem_map, List.getElem_map] at e
  have := h.1 i j W[i] W[j] (List.getElem?_eq_getElem hi) (List.getElem?_eq_getElem hj) e
  omega
theorem j_ap (D : va_G) (ca : Nat → ClassId) (h0 : Nat) (xs : Nat → Int32) (L b5 : Nat) {u : j_S5} (hu : j_S5.ok u) (v : j_S6) (t24 t25 bS : Nat) (hD : va_D (fun q => h0 ≤ q) (j_wd ca b5 u v)) :
    m_ap (j_ad b5 u v t24 t25 bS, D, ca, h0, xs, L) := by
  have hn := j_nodup hD
  rw [j_wd_fst] at hn
  have hin : ∀ a ∈ j_F b5 u v, h0 ≤ a := by
    intro a ha
    rw [← j_wd_fst ca] at ha
    obtain ⟨x, hx, rfl⟩ := List.mem_map.mp ha
    obtain ⟨k, hk⟩ := List.getElem?_of_mem hx
    exact hD.2 k x hk
  have hp : m_DL.map (fun q => j_ad b5 u v t24 t25 bS q.1 q.2.1 q.2.2) |>.Perm (j_F b5 u v) := by
    rw [j_DL_ad b5 hu, List.perm_iff_count]
    intro a
    have eL : ∀ T : List (Nat × j_S0), (T.flatMap j_G).count a = (T.flatMap j_B).count a := by
      intro T
      rw [List.count_flatMap, List.count_flatMap]
      congr 1
      apply List.map_congr_left
      intro x _
      exact j_G_B x a
    unfold j_cs j_F
    rw [List.flatMap_cons, List.flatMap_append]
    simp only [List.count_append, List.count_cons, List.count_nil, eL, j_G_B]
    omega
  have hn := (hp.nodup_iff).mpr hn
  refine ⟨fun i j p q hp1 hq1 e => ?_, fun k q hk => ?_⟩
  · have f : ∀ (i : Nat) (p : Nat × va_E), (m_ws (j_ad b5 u v t24 t25 bS, D, ca, h0, xs, L) (fun _ _ _ _ => 0))[i]? = some p → (m_DL.map (fun q => j_ad b5 u v t24 t25 bS q.1 q.2.1 q.2.2))[i]? = some p.1 := by
      intro i p h
      unfold m_ws m_wl at h
      rw [List.getElem?_map] at h ⊢
      cases hx : m_DL[i]? with
      | none => rw [hx] at h; cases h
      | some y => rw [hx] at h; cases h; rfl
    have h1 := f i p hp1
    have h2 := f j q hq1
    rw [← e] at h2
    exact (List.getElem?_inj (List.getElem?_eq_some_iff.mp h1).1 hn).mp (h1.trans h2.symm)
  · have hm := List.mem_of_getElem? hk
    unfold m_ws m_wl at hm
    obtain ⟨y, hy, rfl⟩ := List.mem_map.mp hm
    exact hin _ (hp.subset (List.mem_map.mpr ⟨y, hy, rfl⟩))
