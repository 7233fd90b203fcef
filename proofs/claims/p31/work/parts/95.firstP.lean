/-! THE FIRST MEMORY lies in the world that the constructors made (by wip/gen31/g95.py). -/
theorem j_arr {cI : ClassId} {N : Nat} {f g : Nat → Value} (h : ∀ j, j < N → f j = g j) : arrV cI N f = arrV cI N g := by
  have e : (fun j : Fin N => f j.val) = fun j => g j.val := funext fun j => h j.val j.isLt
  unfold arrV
  rw [e]
theorem j_tv (g : m_G) (a b c : Nat) : m_tv g (.ref (m_lc a b c)) = .ref (g.1 a b c) := by
  show Value.ref (g.1 (m_ka (m_lc a b c)) (m_kb (m_lc a b c)) (m_kc (m_lc a b c))) = _
  rw [m_ka_s, m_kb_s, m_kc_s]
theorem j_ra (g : m_G) {cI : ClassId} {n : Nat} {L : List Nat} {A B C : Nat → Nat} (h : ∀ i, i < n → L[i]? = some (g.1 (A i) (B i) (C i))) :
    vp_cell cI (n, .inr (.inr (.inr (.inr fun i => L[i]?)))) = vp_cell cI (n, .inr (.inr (.inr (.inr fun i => some (g.1 (m_ka (m_lc (A i) (B i) (C i))) (m_kb (m_lc (A i) (B i) (C i))) (m_kc (m_lc (A i) (B i) (C i)))))))) := by
  rw [vp_cell_q, vp_cell_q]
  refine j_arr fun j hj => ?_
  rw [h j hj, m_ka_s, m_kb_s, m_kc_s]
section FIRST
variable {D : va_G} {ca : Nat → ClassId} {h0 : Nat} {xs : Nat → Int32} {L b5 : Nat} {u : j_S5} {v : j_S6} {t24 t25 bS : Nat} {H : Heap}

theorem j_all (hP : va_P D vwCl (j_wd ca b5 u v) H) : ∀ y ∈ j_wd ca b5 u v, va_at D vwCl y H := by
  intro y hy
  obtain ⟨k, hk⟩ := List.getElem?_of_mem hy
  exact hP k y hk
theorem j_in5 {y : Nat × va_E} (h : y ∈ j_W5 ca b5 u) : y ∈ j_wd ca b5 u v := List.mem_append_left _ h
theorem j_in6 {y : Nat × va_E} (h : y ∈ j_W6 ca v) : y ∈ j_wd ca b5 u v := List.mem_append_right _ h
theorem j_in0 (hu : j_S5.ok u) {b : Nat} (hb : b < 9) {y : Nat × va_E} (h : y ∈ j_W0 ca (j_c u b).1 (j_c u b).2) : y ∈ j_wd ca b5 u v := j_in5 (j_W0_in (j_c_in hu hb) y h)

theorem j_p1 (hP : va_P D vwCl (j_wd ca b5 u v) H) : va_at D vwCl (j_ad b5 u v t24 t25 bS 1 0 0, m_en (j_ad b5 u v t24 t25 bS, D, ca, h0, xs, L) (1, 0, 0) (j_M xs L 1 0 0)) H := by
  have e : m_en (j_ad b5 u v t24 t25 bS, D, ca, h0, xs, L) (1, 0, 0) (j_M xs L 1 0 0) = .inr (5, [.ref (j_S5.cp u), .ref (j_S5.t u), .ref (j_S5.sl u), .ref (j_S5.tk u), .ref (j_S5.sv u), .int 0]) := by
    show Sum.inr (5, [m_tv (j_ad b5 u v t24 t25 bS, D, ca, h0, xs, L) (.ref (m_lc 7 0 0)), m_tv (j_ad b5 u v t24 t25 bS, D, ca, h0, xs, L) (.ref (m_lc 5 0 0)), m_tv (j_ad b5 u v t24 t25 bS, D, ca, h0, xs, L) (.ref (m_lc 2 0 0)), m_tv (j_ad b5 u v t24 t25 bS, D, ca, h0, xs, L) (.ref (m_lc 3 0 0)), m_tv (j_ad b5 u v t24 t25 bS, D, ca, h0, xs, L) (.ref (m_lc 4 0 0)), .int 0]) = _
    rw [j_tv, j_tv, j_tv, j_tv, j_tv]
    rfl
  rw [e]
  exact j_all hP _ (j_in5 List.mem_cons_self)
theorem j_p5 (hP : va_P D vwCl (j_wd ca b5 u v) H) : va_at D vwCl (j_ad b5 u v t24 t25 bS 5 0 0, m_en (j_ad b5 u v t24 t25 bS, D, ca, h0, xs, L) (5, 0, 0) (j_M xs L 5 0 0)) H := by
  have e : m_en (j_ad b5 u v t24 t25 bS, D, ca, h0, xs, L) (5, 0, 0) (j_M xs L 5 0 0) = .inr (2, [.ref (j_S5.q u), .int 0, .int 0, .int 0, .int 0, .int 0]) := by
    show Sum.inr (2, [m_tv (j_ad b5 u v t24 t25 bS, D, ca, h0, xs, L) (.ref (m_lc 6 0 0)), .int 0, .int 0, .int (m_nc 0), .int 0, .int 0]) = _
    rw [j_tv]
    rfl
  rw [e]
  exact j_all hP _ (j_in5 (List.mem_cons_of_mem _ (List.mem_cons_of_mem _ (List.mem_append_left _ (List.mem_cons_of_mem _ (List.mem_append_left _ (List.mem_append_left _ (List.mem_append_right _ List.mem_cons_self))))))))
theorem j_p3 (hP : va_P D vwCl (j_wd ca b5 u v) H) : va_at D vwCl (j_ad b5 u v t24 t25 bS 3 0 0, m_en (j_ad b5 u v t24 t25 bS, D, ca, h0, xs, L) (3, 0, 0) (j_M xs L 3 0 0)) H := j_all hP (e_Z ca (j_S5.tk u) 2 2) (j_in5 (List.mem_cons_of_mem _ (List.mem_cons_of_mem _ (List.mem_append_left _ (List.mem_cons_of_mem _ (List.mem_append_left _ (List.mem_append_right _ List.mem_cons_self)))))))
theorem j_p6 (hP : va_P D vwCl (j_wd ca b5 u v) H) : va_at D vwCl (j_ad b5 u v t24 t25 bS 6 0 0, m_en (j_ad b5 u v t24 t25 bS, D, ca, h0, xs, L) (6, 0, 0) (j_M xs L 6 0 0)) H := j_all hP (e_Z ca (j_S5.q u) 3 60) (j_in5 (List.mem_cons_of_mem _ (List.mem_cons_of_mem _ (List.mem_append_left _ (List.mem_cons_of_mem _ (List.mem_append_left _ (List.mem_append_left _ (List.mem_append_right _ (List.mem_cons_of_mem _ List.mem_cons_self)))))))))
theorem j_p16 (hP : va_P D vwCl (j_wd ca b5 u v) H) : va_at D vwCl (j_ad b5 u v t24 t25 bS 16 0 0, m_en (j_ad b5 u v t24 t25 bS, D, ca, h0, xs, L) (16, 0, 0) (j_M xs L 16 0 0)) H := j_all hP (e_Z ca (j_S6.ga v) 1 13) (j_in6 (List.mem_cons_self))
theorem j_p17 (hP : va_P D vwCl (j_wd ca b5 u v) H) : va_at D vwCl (j_ad b5 u v t24 t25 bS 17 0 0, m_en (j_ad b5 u v t24 t25 bS, D, ca, h0, xs, L) (17, 0, 0) (j_M xs L 17 0 0)) H := j_all hP (e_Z ca (j_S6.da v) 1 64) (j_in6 (List.mem_cons_of_mem _ (List.mem_cons_self)))
theorem j_p18 (hP : va_P D vwCl (j_wd ca b5 u v) H) : va_at D vwCl (j_ad b5 u v t24 t25 bS 18 0 0, m_en (j_ad b5 u v t24 t25 bS, D, ca, h0, xs, L) (18, 0, 0) (j_M xs L 18 0 0)) H := j_all hP (e_Z ca (j_S6.la v) 1 60) (j_in6 (List.mem_cons_of_mem _ (List.mem_cons_of_mem _ (List.mem_cons_self))))
theorem j_p19 (hP : va_P D vwCl (j_wd ca b5 u v) H) : va_at D vwCl (j_ad b5 u v t24 t25 bS 19 0 0, m_en (j_ad b5 u v t24 t25 bS, D, ca, h0, xs, L) (19, 0, 0) (j_M xs L 19 0 0)) H := j_all hP (e_Z ca (j_S6.ba v) 1 36) (j_in6 (List.mem_cons_of_mem _ (List.mem_cons_of_mem _ (List.mem_cons_of_mem _ (List.mem_cons_self)))))
theorem j_p2 (hu : j_S5.ok u) (hP : va_P D vwCl (j_wd ca b5 u v) H) : va_at D vwCl (j_ad b5 u v t24 t25 bS 2 0 0, m_en (j_ad b5 u v t24 t25 bS, D, ca, h0, xs, L) (2, 0, 0) (j_M xs L 2 0 0)) H := by
  have h : H[(j_S5.sl u)]? = some (vp_cell (ca 5) (2, .inr (.inr (.inr (.inr fun i => ((j_S5.L u).map Prod.fst)[i]?))))) := j_all hP (e_A ca (j_S5.sl u) 5 2 ((j_S5.L u).map Prod.fst)) (j_in5 (List.mem_cons_of_mem _ (List.mem_cons_of_mem _ (List.mem_append_left _ List.mem_cons_self))))
  show H[(j_S5.sl u)]? = some (vp_cell (ca 5) (2, .inr (.inr (.inr (.inr fun i => some (_))))))
  rw [h]
  congr 1
  rw [vp_cell_q, vp_cell_q]
  refine j_arr fun i hi => ?_
  show va_rf (((j_S5.L u).map Prod.fst)[i]?) = va_rf (some (j_ad b5 u v t24 t25 bS (m_ka (m_lc 7 (1 + i) 0)) (m_kb (m_lc 7 (1 + i) 0)) (m_kc (m_lc 7 (1 + i) 0))))
  rw [m_ka_s, m_kb_s, m_kc_s, List.getElem?_map, j_c_L hu hi]
  rfl
theorem j_p4 (hu : j_S5.ok u) (hP : va_P D vwCl (j_wd ca b5 u v) H) : va_at D vwCl (j_ad b5 u v t24 t25 bS 4 0 0, m_en (j_ad b5 u v t24 t25 bS, D, ca, h0, xs, L) (4, 0, 0) (j_M xs L 4 0 0)) H := by
  have h : H[(j_S5.sv u)]? = some (vp_cell (ca 5) (6, .inr (.inr (.inr (.inr fun i => ((j_S5.V u).map Prod.fst)[i]?))))) := j_all hP (e_A ca (j_S5.sv u) 5 6 ((j_S5.V u).map Prod.fst)) (j_in5 (List.mem_cons_of_mem _ List.mem_cons_self))
  show H[(j_S5.sv u)]? = some (vp_cell (ca 5) (6, .inr (.inr (.inr (.inr fun i => some (_))))))
  rw [h]
  congr 1
  rw [vp_cell_q, vp_cell_q]
  refine j_arr fun i hi => ?_
  show va_rf (((j_S5.V u).map Prod.fst)[i]?) = va_rf (some (j_ad b5 u v t24 t25 bS (m_ka (m_lc 7 (3 + (nI i).toNatClampNeg) 0)) (m_kb (m_lc 7 (3 + (nI i).toNatClampNeg) 0)) (m_kc (m_lc 7 (3 + (nI i).toNatClampNeg) 0))))
  rw [m_ka_s, m_kb_s, m_kc_s, nI_clamp (by omega), List.getElem?_map, j_c_V hu hi]
  rfl
theorem j_p7 (hu : j_S5.ok u) (hP : va_P D vwCl (j_wd ca b5 u v) H) {b : Nat} (hb : b < 9) : va_at D vwCl (j_ad b5 u v t24 t25 bS 7 b 0, m_en (j_ad b5 u v t24 t25 bS, D, ca, h0, xs, L) (7, b, 0) (j_M xs L 7 b 0)) H := by
  have e : m_en (j_ad b5 u v t24 t25 bS, D, ca, h0, xs, L) (7, b, 0) (j_M xs L 7 b 0) = .inr (0, [.ref (j_S0.aD (j_c u b).2), .ref (j_S0.aC (j_c u b).2), .ref (j_S0.aB (j_c u b).2), .ref (j_S0.lo (j_c u b).2), .ref (j_S0.st (j_c u b).2), .int 0, .int 0, .int 0, .int 0, .int 0]) := by
    show Sum.inr (0, [m_tv (j_ad b5 u v t24 t25 bS, D, ca, h0, xs, L) (.ref (m_lc 8 b 0)), m_tv (j_ad b5 u v t24 t25 bS, D, ca, h0, xs, L) (.ref (m_lc 9 b 0)), m_tv (j_ad b5 u v t24 t25 bS, D, ca, h0, xs, L) (.ref (m_lc 10 b 0)), m_tv (j_ad b5 u v t24 t25 bS, D, ca, h0, xs, L) (.ref (m_lc 14 b 12)), m_tv (j_ad b5 u v t24 t25 bS, D, ca, h0, xs, L) (.ref (m_lc 11 b 0)), .int 0, .int 0, .int 0, .int 0, .int 0]) = _
    rw [j_tv, j_tv, j_tv, j_tv, j_tv]
    rfl
  rw [e]
  exact j_all hP _ (j_in0 hu hb List.mem_cons_self)
theorem j_p8 (hu : j_S5.ok u) (hP : va_P D vwCl (j_wd ca b5 u v) H) {b : Nat} (hb : b < 9) : va_at D vwCl (j_ad b5 u v t24 t25 bS 8 b 0, m_en (j_ad b5 u v t24 t25 bS, D, ca, h0, xs, L) (8, b, 0) (j_M xs L 8 b 0)) H := by
  have h : H[(j_S0.aD (j_c u b).2)]? = some (vp_cell (ca 6) (8, .inr (.inr (.inr (.inr fun i => (j_S0.LD (j_c u b).2)[i]?))))) := j_all hP (e_A ca (j_S0.aD (j_c u b).2) 6 8 (j_S0.LD (j_c u b).2)) (j_in0 hu hb (List.mem_cons_of_mem _ (List.mem_cons_self)))
  show H[(j_S0.aD (j_c u b).2)]? = some (vp_cell (ca 6) (8, .inr (.inr (.inr (.inr fun i => some (_))))))
  rw [h]
  congr 1
  rw [vp_cell_q, vp_cell_q]
  refine j_arr fun i hi => ?_
  have hl := (j_c_ok hu hb).1
  show va_rf ((j_S0.LD (j_c u b).2)[i]?) = va_rf (some (j_ad b5 u v t24 t25 bS (m_ka (m_lc 12 b i)) (m_kb (m_lc 12 b i)) (m_kc (m_lc 12 b i))))
  rw [m_ka_s, m_kb_s, m_kc_s, j_gd_at _ 0 (by rw [hl]; exact hi)]
  rfl
theorem j_p9 (hu : j_S5.ok u) (hP : va_P D vwCl (j_wd ca b5 u v) H) {b : Nat} (hb : b < 9) : va_at D vwCl (j_ad b5 u v t24 t25 bS 9 b 0, m_en (j_ad b5 u v t24 t25 bS, D, ca, h0, xs, L) (9, b, 0) (j_M xs L 9 b 0)) H := by
  have h : H[(j_S0.aC (j_c u b).2)]? = some (vp_cell (ca 7) (10, .inr (.inr (.inr (.inr fun i => (j_S0.LC (j_c u b).2)[i]?))))) := j_all hP (e_A ca (j_S0.aC (j_c u b).2) 7 10 (j_S0.LC (j_c u b).2)) (j_in0 hu hb (List.mem_cons_of_mem _ (List.mem_cons_of_mem _ (List.mem_cons_self))))
  show H[(j_S0.aC (j_c u b).2)]? = some (vp_cell (ca 7) (10, .inr (.inr (.inr (.inr fun i => some (_))))))
  rw [h]
  congr 1
  rw [vp_cell_q, vp_cell_q]
  refine j_arr fun i hi => ?_
  have hl := (j_c_ok hu hb).2.1
  show va_rf ((j_S0.LC (j_c u b).2)[i]?) = va_rf (some (j_ad b5 u v t24 t25 bS (m_ka (m_lc 13 b i)) (m_kb (m_lc 13 b i)) (m_kc (m_lc 13 b i))))
  rw [m_ka_s, m_kb_s, m_kc_s, j_gd_at _ 0 (by rw [hl]; exact hi)]
  rfl
theorem j_p10 (hu : j_S5.ok u) (hP : va_P D vwCl (j_wd ca b5 u v) H) {b : Nat} (hb : b < 9) : va_at D vwCl (j_ad b5 u v t24 t25 bS 10 b 0, m_en (j_ad b5 u v t24 t25 bS, D, ca, h0, xs, L) (10, b, 0) (j_M xs L 10 b 0)) H := by
  have h : H[(j_S0.aB (j_c u b).2)]? = some (vp_cell (ca 8) (12, .inr (.inr (.inr (.inr fun i => (j_S0.LB (j_c u b).2)[i]?))))) := j_all hP (e_A ca (j_S0.aB (j_c u b).2) 8 12 (j_S0.LB (j_c u b).2)) (j_in0 hu hb (List.mem_cons_of_mem _ (List.mem_cons_of_mem _ (List.mem_cons_of_mem _ (List.mem_cons_self)))))
  show H[(j_S0.aB (j_c u b).2)]? = some (vp_cell (ca 8) (12, .inr (.inr (.inr (.inr fun i => some (_))))))
  rw [h]
  congr 1
  rw [vp_cell_q, vp_cell_q]
  refine j_arr fun i hi => ?_
  have hl := (j_c_ok hu hb).2.2
  show va_rf ((j_S0.LB (j_c u b).2)[i]?) = va_rf (some (j_ad b5 u v t24 t25 bS (m_ka (m_lc 14 b i)) (m_kb (m_lc 14 b i)) (m_kc (m_lc 14 b i))))
  rw [m_ka_s, m_kb_s, m_kc_s, j_gd_at _ 0 (by rw [hl]; exact hi)]
  show _ = va_rf (some (if i = 12 then _ else _))
  rw [if_neg (by omega)]
theorem j_p11 (hu : j_S5.ok u) (hP : va_P D vwCl (j_wd ca b5 u v) H) {b : Nat} (hb : b < 9) : va_at D vwCl (j_ad b5 u v t24 t25 bS 11 b 0, m_en (j_ad b5 u v t24 t25 bS, D, ca, h0, xs, L) (11, b, 0) (j_M xs L 11 b 0)) H := j_all hP (e_st ca (j_S0.st (j_c u b).2)) (j_in0 hu hb (List.mem_cons_of_mem _ (List.mem_cons_of_mem _ (List.mem_cons_of_mem _ (List.mem_cons_of_mem _ (List.mem_cons_of_mem _ (List.mem_cons_self)))))))
theorem j_p12 (hu : j_S5.ok u) (hP : va_P D vwCl (j_wd ca b5 u v) H) {b : Nat} (hb : b < 9) {i : Nat} (hi : i < 8) : va_at D vwCl (j_ad b5 u v t24 t25 bS 12 b i, m_en (j_ad b5 u v t24 t25 bS, D, ca, h0, xs, L) (12, b, i) (j_M xs L 12 b i)) H := by
  have hl := (j_c_ok hu hb).1
  exact j_all hP (e_D ((j_S0.LD (j_c u b).2).getD i 0)) (j_in0 hu hb (List.mem_cons_of_mem _ (List.mem_cons_of_mem _ (List.mem_cons_of_mem _ (List.mem_cons_of_mem _ (List.mem_cons_of_mem _ (List.mem_cons_of_mem _ (List.mem_append_left _ (List.mem_append_left _ (List.mem_append_right _ (List.mem_map.mpr ⟨_, j_gd_in _ 0 (by rw [hl]; exact hi), rfl⟩)))))))))))
theorem j_p13 (hu : j_S5.ok u) (hP : va_P D vwCl (j_wd ca b5 u v) H) {b : Nat} (hb : b < 9) {i : Nat} (hi : i < 10) : va_at D vwCl (j_ad b5 u v t24 t25 bS 13 b i, m_en (j_ad b5 u v t24 t25 bS, D, ca, h0, xs, L) (13, b, i) (j_M xs L 13 b i)) H := by
  have hl := (j_c_ok hu hb).2.1
  have nb : m_nb 0 = 0 := by decide
  have e : m_en (j_ad b5 u v t24 t25 bS, D, ca, h0, xs, L) (13, b, i) (j_M xs L 13 b i) = .inr (1, [.int 800, .int (-1), .int 0, .int (m_nb 0), .int 0, .int 0]) := rfl
  rw [e, nb]
  exact j_all hP (e_C ((j_S0.LC (j_c u b).2).getD i 0)) (j_in0 hu hb (List.mem_cons_of_mem _ (List.mem_cons_of_mem _ (List.mem_cons_of_mem _ (List.mem_cons_of_mem _ (List.mem_cons_of_mem _ (List.mem_cons_of_mem _ (List.mem_append_left _ (List.mem_append_right _ (List.mem_map.mpr ⟨_, j_gd_in _ 0 (by rw [hl]; exact hi), rfl⟩))))))))))
theorem j_p14 (hu : j_S5.ok u) (hP : va_P D vwCl (j_wd ca b5 u v) H) {b : Nat} (hb : b < 9) {i : Nat} (hi : i < 13) : va_at D vwCl (j_ad b5 u v t24 t25 bS 14 b i, m_en (j_ad b5 u v t24 t25 bS, D, ca, h0, xs, L) (14, b, i) (j_M xs L 14 b i)) H := by
  have hl := (j_c_ok hu hb).2.2
  show va_at D vwCl ((if i = 12 then (j_S0.lo (j_c u b).2) else (j_S0.LB (j_c u b).2).getD i 0), _) H
  by_cases h : i = 12
  · rw [if_pos h]
    exact j_all hP (e_G (j_S0.lo (j_c u b).2)) (j_in0 hu hb (List.mem_cons_of_mem _ (List.mem_cons_of_mem _ (List.mem_cons_of_mem _ (List.mem_cons_of_mem _ (List.mem_cons_self))))))
  · rw [if_neg h]
    exact j_all hP (e_G ((j_S0.LB (j_c u b).2).getD i 0)) (j_in0 hu hb (List.mem_cons_of_mem _ (List.mem_cons_of_mem _ (List.mem_cons_of_mem _ (List.mem_cons_of_mem _ (List.mem_cons_of_mem _ (List.mem_cons_of_mem _ (List.mem_append_right _ (List.mem_map.mpr ⟨_, j_gd_in _ 0 (by rw [hl]; omega), rfl⟩)))))))))
theorem j_P (hu : j_S5.ok u) (hP : va_P D vwCl (j_wd ca b5 u v) H) : m_P (j_ad b5 u v t24 t25 bS, D, ca, h0, xs, L) (j_M xs L) H := by
  have key : ∀ p ∈ m_DL, va_at D vwCl (j_ad b5 u v t24 t25 bS p.1 p.2.1 p.2.2, m_en (j_ad b5 u v t24 t25 bS, D, ca, h0, xs, L) p (j_M xs L p.1 p.2.1 p.2.2)) H := by
    unfold m_DL
    refine List.forall_mem_append.mpr ⟨?_, ?_⟩
    · refine List.forall_mem_map.mpr ?_
      intro a ha
      simp only [List.mem_cons, List.not_mem_nil, or_false] at ha
      rcases ha with rfl | rfl | rfl | rfl | rfl | rfl | rfl | rfl | rfl | rfl
      · exact j_p1 hP
      · exact j_p2 hu hP
      · exact j_p3 hP
      · exact j_p4 hu hP
      · exact j_p5 hP
      · exact j_p6 hP
      · exact j_p16 hP
      · exact j_p17 hP
      · exact j_p18 hP
      · exact j_p19 hP
    · intro p hp
      obtain ⟨b, hb, hp⟩ := List.mem_flatMap.mp hp
      have hb := List.mem_range.mp hb
      rcases List.mem_append.mp hp with hp | hp
      · simp only [List.mem_cons, List.not_mem_nil, or_false] at hp
        rcases hp with rfl | rfl | rfl | rfl | rfl
        · exact j_p7 hu hP hb
        · exact j_p8 hu hP hb
        · exact j_p9 hu hP hb
        · exact j_p10 hu hP hb
        · exact j_p11 hu hP hb
      · rcases List.mem_append.mp hp with hp | hp
        · obtain ⟨i, hi, rfl⟩ := List.mem_map.mp hp
          exact j_p12 hu hP hb (List.mem_range.mp hi)
        · rcases List.mem_append.mp hp with hp | hp
          · obtain ⟨i, hi, rfl⟩ := List.mem_map.mp hp
            exact j_p13 hu hP hb (List.mem_range.mp hi)
          · obtain ⟨i, hi, rfl⟩ := List.mem_map.mp hp
            exact j_p14 hu hP hb (List.mem_range.mp hi)
  intro k q hk
  obtain ⟨p, hp, rfl⟩ := List.mem_map.mp (List.mem_of_getElem? hk)
  exact key p hp
end FIRST
