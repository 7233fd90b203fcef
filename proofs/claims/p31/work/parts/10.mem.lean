/-! THE STEPS that touch the memory. -/
theorem m_en_obj {g : m_G} {a b c : Nat} {f : Nat → Int32} (h : m_at a = 0) : m_en g (a, b, c) f = .inr (m_ci a, (List.range (m_n (m_ci a))).map (fun k => m_tv g (m_fv a b c k (f k)))) := by
  unfold m_en
  dsimp only
  rw [h]
  rfl
theorem m_en_int {g : m_G} {a b c t : Nat} {f : Nat → Int32} (h : m_at a = t) (ht : t = 1 ∨ t = 2 ∨ t = 3) : m_en g (a, b, c) f = .inl (g.2.2.1 t, m_al a, .inl f) := by
  unfold m_en
  dsimp only
  rw [h]
  rcases ht with rfl | rfl | rfl <;> rfl
theorem m_en_ref {g : m_G} {a b c : Nat} {f : Nat → Int32} (h : m_at a = 5) : m_en g (a, b, c) f = .inl (g.2.2.1 (m_rc a), m_al a, .inr (.inr (.inr (.inr fun i => some (g.1 (m_ka (m_ra a b c i (f i))) (m_kb (m_ra a b c i (f i))) (m_kc (m_ra a b c i (f i)))))))) := by
  unfold m_en
  dsimp only
  rw [h]
  rfl
theorem m_Mst_set {g : m_G} {M : m_Mem} {a b c k : Nat} {v : Int32} (h : m_Mst g M) (ha : a < 24) : m_Mst g (m_set M a b c k v) := by
  have key : ∀ a' b' c' k', 24 ≤ a' → m_set M a b c k v a' b' c' k' = M a' b' c' k' := by
    intro a' b' c' k' h'
    unfold m_set
    rw [if_neg (fun q => by omega)]
  obtain ⟨h1, h2, h3, h4, h5⟩ := h
  exact ⟨fun j hj => by rw [key _ _ _ _ (by decide)]; exact h1 j hj, fun j hj => by rw [key _ _ _ _ (by decide)]; exact h2 j hj, fun j hj => by rw [key _ _ _ _ (by decide)]; exact h3 j hj, by rw [key _ _ _ _ (by decide)]; exact h4, h5⟩
section MEM
variable {g : m_G} {X : Nat} {p : Program} {l : Launch} {e : Env} {R : Room} {s : State} {m : MethodId} {args : Array Value} {below : List Frame} {meth : Method} {c : Code} {cells slots : Nat} {Q : State → Prop} {pc : Nat} {M : m_Mem}
variable {ls : Array Slot} {H : Heap} {locs : List Loc} {rest : List Value} {a b cc k x : Nat}
theorem m_get_s (C : m_C g X p l R s m args meth c) {f : Nat} (hf : m_look (m_FT (m_nth m_ownL X)) k = some (a, f)) (hm : m_dom a b cc = true) (hd : decode (m_code X) pc = .ok (.getfield k, 3)) (hP : m_P g M H)
    (kk : W p l e R s m args below meth c H locs cells slots Q (F0 m (pc + 3) ls (m_tv g (m_fv a b cc f (M a b cc f)) :: rest))) : W p l e R s m args below meth c H locs cells slots Q (F0 m pc ls (.ref (g.1 a b cc) :: rest)) := by
  obtain ⟨hx, hb, hml, hown, hts, -, -, -, hK, -, -⟩ := C
  obtain ⟨hk, hci⟩ := m_FT_in _ hf
  have hok := m_ci_in a hci
  obtain ⟨i, hi⟩ := List.getElem?_of_mem (m_DL_mem hm (m_OK_lt a hok))
  have he := m_wl_at (g := g) (M := M) hi
  rw [m_en_obj (m_OK_at a hok).1] at he
  refine va_get (ci := m_ci a) (C := m_cn (m_ci a)) (T := m_T (m_ci a)) (N := m_n (m_ci a)) hx hb hts (m_lay _ hci) hown hK.1 hP i he (m_vw _ hci) f hk (hts _ (m_FT_ok _ hf)) (fun _ h => by rw [m_Tcn a hok f hk] at h; exact h) ?_ hd kk
  rw [List.getElem?_map, List.getElem?_range hk]
  rfl
theorem m_fits {t : Nat} {v : Int32} (ht : t < 3) (h : m_nok t v = true) : narrow (m_ftt t) (.int v) = .int v ∧ fits (m_ftt t) (.int v) = true := by
  match t, ht, h with
  | 0, _, _ => exact ⟨rfl, rfl⟩
  | 1, _, h =>
    have e : v = v &&& 1 := eq_of_beq (show (v == v &&& 1) = true from h)
    refine ⟨by show Value.int (v &&& 1) = _; rw [← e], ?_⟩
    obtain ⟨j, hj, e2⟩ := pk_andE v (m := 1) 1 rfl
    show fits .boolean (.int v) = true
    rw [e, e2]
    rcases (show j = 0 ∨ j = 1 by omega) with rfl | rfl <;> rfl
  | 2, _, h =>
    have e : v = m_nc v := eq_of_beq (show (v == m_nc v) = true from h)
    have e1 : m_nc v = v.toUInt32.toUInt16.toUInt32.toInt32 := rfl
    refine ⟨by show Value.int (v.toUInt32.toUInt16.toUInt32.toInt32) = _; rw [← e1, ← e], ?_⟩
    show fits .char (.int v) = true
    rw [e, e1]
    have e3 : ∃ q : Nat, q < 65536 ∧ v.toUInt32.toUInt16.toUInt32.toInt32 = nI q := by
      refine ⟨v.toBitVec.toNat % 65536, Nat.mod_lt _ (by decide), ?_⟩
      rw [← pk_char]
      apply congrArg UInt32.toInt32
      apply UInt32.toNat.inj
      simp
    obtain ⟨q, hq, e4⟩ := e3
    rw [e4]
    exact (pk_charN hq).2
theorem m_put_s (C : m_C g X p l R s m args meth c) {f : Nat} {v : Int32} (hf : m_look (m_FT (m_nth m_ownL X)) k = some (a, f)) (hm : m_dom a b cc = true) (hnok : m_nok (m_fn a f) v = true) (hd : decode (m_code X) pc = .ok (.putfield k, 3)) (hP : m_P g M H) (hM : m_Mst g M) (hS : va_S (m_A g) s.heap H locs)
    (kk : ∀ (H1 : Heap) (locs1 : List Loc), m_P g (m_set M a b cc f v) H1 → m_Mst g (m_set M a b cc f v) → va_S (m_A g) s.heap H1 locs1 → W p l e R s m args below meth c H1 locs1 cells slots Q (F0 m (pc + 3) ls rest)) : W p l e R s m args below meth c H locs cells slots Q (F0 m pc ls (.int v :: .ref (g.1 a b cc) :: rest)) := by
  obtain ⟨hx, hb, hml, hown, hts, -, -, -, hK, hap, -⟩ := C
  obtain ⟨hk, hci⟩ := m_FT_in _ hf
  have hok := m_ci_in a hci
  obtain ⟨i, hi⟩ := List.getElem?_of_mem (m_DL_mem hm (m_OK_lt a hok))
  have he := m_wl_at (g := g) (M := M) hi
  rw [m_en_obj (m_OK_at a hok).1] at he
  have hfn : m_fn a f < 3 := by
    cases hq : m_fn a f with
    | zero => omega
    | succ n =>
      rw [hq] at hnok
      match n, hnok with
      | 0, _ => omega
      | 1, _ => omega
      | n + 2, h => cases h
  obtain ⟨hty, hfin⟩ := m_fty a hok f hk hfn
  have htok := m_tyok (m_ci a) hci f hk
  rw [hty] at htok
  obtain ⟨hnar, hfit⟩ := m_fits hfn hnok
  refine va_put (ci := m_ci a) (C := m_cn (m_ci a)) (T := m_T (m_ci a)) (N := m_n (m_ci a)) hx hb hts (m_lay _ hci) (m_ty (m_ci a)) (m_tyok _ hci) (m_nmok _ hci) hown hK.1 hP (m_ap_D hap M) hS i he (m_vw _ hci) f hk (hts _ (m_FT_ok _ hf)) (fun _ h => by rw [m_Tcn a hok f hk] at h; exact h) hfin htok hnar hfit ?_ hd (fun H1 locs1 hP1 _ hS1 => ?_)
  · rw [List.length_map, List.length_range]
    exact hk
  · refine kk H1 locs1 ?_ (m_Mst_set hM (m_OK_lt a hok)) hS1
    have e : (m_ws g M).set i (g.1 a b cc, .inr (m_ci a, ((List.range (m_n (m_ci a))).map (fun k => m_tv g (m_fv a b cc k (M a b cc k)))).set f (.int v))) = m_ws g (m_set M a b cc f v) := by
      refine m_wl_set (q := (a, b, cc)) m_DL_nd hi (fun q _ hq => m_set_o q hq) ?_
      show _ = m_en g (a, b, cc) (m_set M a b cc f v a b cc)
      rw [m_set_f, m_en_obj (m_OK_at a hok).1]
      congr 2
      apply List.ext_getElem?
      intro j
      rw [List.getElem?_set, List.getElem?_map, List.getElem?_map, List.length_map, List.length_range]
      by_cases hj : f = j
      · subst hj
        rw [if_pos rfl, if_pos hk, List.getElem?_range hk]
        show some (Value.int v) = some (m_tv g (m_fv a b cc f (upd (M a b cc) f v f)))
        rw [show upd (M a b cc) f v f = v from if_pos rfl]
        have e3 : m_fv a b cc f v = .int v := by
          unfold m_fv
          match hq : m_fn a f, hfn, hnok with
          | 0, _, _ => rfl
          | 1, _, h => exact congrArg Value.int (eq_of_beq (show (v == m_nb v) = true from h)).symm
          | 2, _, h => exact congrArg Value.int (eq_of_beq (show (v == m_nc v) = true from h)).symm
        rw [e3]
        rfl
      · rw [if_neg hj]
        cases hr : (List.range (m_n (m_ci a)))[j]? with
        | none => rfl
        | some z =>
          have hz : z = j := by
            have := (List.getElem?_eq_some_iff.mp hr).2
            simpa using this.symm
          subst hz
          show some (m_tv g (m_fv a b cc z (M a b cc z))) = some (m_tv g (m_fv a b cc z (upd (M a b cc) f v z)))
          rw [show upd (M a b cc) f v z = M a b cc z from if_neg (fun q => hj q.symm)]
    rw [e] at hP1
    exact hP1
theorem m_in_s {i : Int32} {n : Nat} (h : m_in i n = true) : vp_in i n := vp_in_iff.mpr (of_decide_eq_true h)
theorem m_set_e {i f v : Nat} {M : m_Mem} {w : Int32} {en : va_E} (hi : m_DL[i]? = some (a, b, cc)) (he : en = m_en g (a, b, cc) (upd (M a b cc) f w)) : (m_ws g M).set i (g.1 a b cc, en) = m_ws g (m_set M a b cc f w) := by
  refine m_wl_set (q := (a, b, cc)) m_DL_nd hi (fun q _ hq => m_set_o q hq) ?_
  show _ = m_en g (a, b, cc) (m_set M a b cc f w a b cc)
  rw [m_set_f, he]
theorem m_iald_s (C : m_C g X p l R s m args meth c) {i : Int32} (ht : m_at a = 1) (hm : m_dom a b cc = true) (hin : m_in i (m_len a M) = true) (hd : decode (m_code X) pc = .ok (.iaload, 1)) (hP : m_P g M H) (hM : m_Mst g M) (hS : va_S (m_A g) s.heap H locs)
    (kk : W p l e R s m args below meth c H locs cells slots Q (F0 m (pc + 1) ls (.int (M a b cc i.toNatClampNeg) :: rest))) : W p l e R s m args below meth c H locs cells slots Q (F0 m pc ls (.int i :: .ref (g.1 a b cc) :: rest)) := by
  obtain ⟨hx, hb, hml, hown, hts, -, -, -, hK, hap, -⟩ := C
  have hz : ∀ n, m_in i n = true → i.toNatClampNeg < n := fun n h => Nat.not_le.mp fun q => (m_in_s h) (Or.inr q)
  rcases m_at_lt a (by rw [ht]; decide) with h24 | h24 | h24 | h24
  · have hlen : m_len a M = m_al a := by
      unfold m_len
      split
      · omega
      · rfl
    rw [hlen] at hin
    obtain ⟨j, hj⟩ := List.getElem?_of_mem (m_DL_mem hm h24)
    have he := m_wl_at (g := g) (M := M) hj
    rw [m_en_int ht (Or.inl rfl)] at he
    exact va_iald hx hb hK.1 hP j 1 he (m_tys_at g (by decide) (by decide)) (m_in_s hin) hd kk
  · subst h24
    obtain ⟨h1, h2⟩ := m_an hm
    have h1 := m_bq h1
    have h2 := m_bq h2
    subst h1 h2
    obtain ⟨-, -, ⟨-, t1⟩, -⟩ := hK
    exact va_ti hx hb t1 hS (m_in_s (n := 5) hin) (v := .int (M 24 0 0 i.toNatClampNeg)) (by rw [hM.1 _ (hz 5 hin)]) hd kk
  · subst h24
    obtain ⟨h1, h2⟩ := m_an hm
    have h1 := m_bq h1
    have h2 := m_bq h2
    subst h1 h2
    obtain ⟨-, -, -, ⟨-, t1⟩, -⟩ := hK
    exact va_ti hx hb t1 hS (m_in_s (n := 5) hin) (v := .int (M 25 0 0 i.toNatClampNeg)) (by rw [hM.2.1 _ (hz 5 hin)]) hd kk
  · subst h24
    obtain ⟨h1, h2⟩ := m_an hm
    have h1 := m_bq h1
    have h2 := m_bq h2
    subst h1 h2
    obtain ⟨-, ⟨hX, hbl, hbA⟩, -⟩ := hK
    have hlen : m_len 26 M = g.2.2.2.2.2 := by
      show (M 27 0 0 0).toNatClampNeg = _
      rw [hM.2.2.2.1, nI_clamp hM.2.2.2.2]
    rw [hlen] at hin
    rw [hM.2.2.1 _ (hz _ hin)] at kk
    exact va_sld hx hb hX hbl hbA hS (m_in_s hin) hd kk
theorem m_iast_s (C : m_C g X p l R s m args meth c) {i v : Int32} (ht : m_at a = 1) (hw : m_wr a = true) (hm : m_dom a b cc = true) (hin : m_in i (m_al a) = true) (hd : decode (m_code X) pc = .ok (.iastore, 1)) (hP : m_P g M H) (hM : m_Mst g M) (hS : va_S (m_A g) s.heap H locs)
    (kk : ∀ (H1 : Heap) (locs1 : List Loc), m_P g (m_set M a b cc i.toNatClampNeg v) H1 → m_Mst g (m_set M a b cc i.toNatClampNeg v) → va_S (m_A g) s.heap H1 locs1 → W p l e R s m args below meth c H1 locs1 cells slots Q (F0 m (pc + 1) ls rest)) : W p l e R s m args below meth c H locs cells slots Q (F0 m pc ls (.int v :: .int i :: .ref (g.1 a b cc) :: rest)) := by
  obtain ⟨hx, hb, hml, hown, hts, -, -, -, hK, hap, -⟩ := C
  obtain ⟨j, hj⟩ := List.getElem?_of_mem (m_DL_mem hm (m_wr_lt a hw))
  have he := m_wl_at (g := g) (M := M) hj
  rw [m_en_int ht (Or.inl rfl)] at he
  refine va_iast hx hb hK.1 hP (m_ap_D hap M) hS j 1 he (m_tys_at g (by decide) (by decide)) (m_in_s hin) hd (fun H1 locs1 hP1 _ hS1 => kk H1 locs1 ?_ (m_Mst_set hM (m_wr_lt a hw)) hS1)
  rw [m_set_e (v := 0) (f := i.toNatClampNeg) (w := v) hj (by rw [m_en_int ht (Or.inl rfl)])] at hP1
  exact hP1
theorem m_bald_s (C : m_C g X p l R s m args meth c) {i : Int32} (ht : m_at a = 2) (ha : a < 24) (hm : m_dom a b cc = true) (hin : m_in i (m_al a) = true) (hd : decode (m_code X) pc = .ok (.baload, 1)) (hP : m_P g M H)
    (kk : W p l e R s m args below meth c H locs cells slots Q (F0 m (pc + 1) ls (.int (M a b cc i.toNatClampNeg) :: rest))) : W p l e R s m args below meth c H locs cells slots Q (F0 m pc ls (.int i :: .ref (g.1 a b cc) :: rest)) := by
  obtain ⟨hx, hb, hml, hown, hts, -, -, -, hK, hap, -⟩ := C
  obtain ⟨j, hj⟩ := List.getElem?_of_mem (m_DL_mem hm ha)
  have he := m_wl_at (g := g) (M := M) hj
  rw [m_en_int ht (Or.inr (Or.inl rfl))] at he
  exact va_zald hx hb hK.1 hP j 2 he (m_tys_at g (by decide) (by decide)) (m_in_s hin) hd kk
theorem m_bast_s (C : m_C g X p l R s m args meth c) {i v : Int32} (ht : m_at a = 2) (hw : m_wr a = true) (hm : m_dom a b cc = true) (hin : m_in i (m_al a) = true) (hd : decode (m_code X) pc = .ok (.bastore, 1)) (hP : m_P g M H) (hM : m_Mst g M) (hS : va_S (m_A g) s.heap H locs)
    (kk : ∀ (H1 : Heap) (locs1 : List Loc), m_P g (m_set M a b cc i.toNatClampNeg (m_nb v)) H1 → m_Mst g (m_set M a b cc i.toNatClampNeg (m_nb v)) → va_S (m_A g) s.heap H1 locs1 → W p l e R s m args below meth c H1 locs1 cells slots Q (F0 m (pc + 1) ls rest)) : W p l e R s m args below meth c H locs cells slots Q (F0 m pc ls (.int v :: .int i :: .ref (g.1 a b cc) :: rest)) := by
  obtain ⟨hx, hb, hml, hown, hts, -, -, -, hK, hap, -⟩ := C
  obtain ⟨j, hj⟩ := List.getElem?_of_mem (m_DL_mem hm (m_wr_lt a hw))
  have he := m_wl_at (g := g) (M := M) hj
  rw [m_en_int ht (Or.inr (Or.inl rfl))] at he
  refine va_zast hx hb hK.1 hP (m_ap_D hap M) hS j 2 he (m_tys_at g (by decide) (by decide)) (m_in_s hin) hd (fun H1 locs1 hP1 _ hS1 => kk H1 locs1 ?_ (m_Mst_set hM (m_wr_lt a hw)) hS1)
  rw [m_set_e (v := 0) (f := i.toNatClampNeg) (w := m_nb v) hj (by rw [m_en_int ht (Or.inr (Or.inl rfl))]; rfl)] at hP1
  exact hP1
theorem m_cald_s (C : m_C g X p l R s m args meth c) {i : Int32} (ht : m_at a = 3) (ha : a < 24) (hm : m_dom a b cc = true) (hin : m_in i (m_al a) = true) (hd : decode (m_code X) pc = .ok (.caload, 1)) (hP : m_P g M H)
    (kk : W p l e R s m args below meth c H locs cells slots Q (F0 m (pc + 1) ls (.int (M a b cc i.toNatClampNeg) :: rest))) : W p l e R s m args below meth c H locs cells slots Q (F0 m pc ls (.int i :: .ref (g.1 a b cc) :: rest)) := by
  obtain ⟨hx, hb, hml, hown, hts, -, -, -, hK, hap, -⟩ := C
  obtain ⟨j, hj⟩ := List.getElem?_of_mem (m_DL_mem hm ha)
  have he := m_wl_at (g := g) (M := M) hj
  rw [m_en_int ht (Or.inr (Or.inr rfl))] at he
  exact va_cald hx hb hK.1 hP j 3 he (m_tys_at g (by decide) (by decide)) (m_in_s hin) hd kk
theorem m_cast_s (C : m_C g X p l R s m args meth c) {i v : Int32} (ht : m_at a = 3) (hw : m_wr a = true) (hm : m_dom a b cc = true) (hin : m_in i (m_al a) = true) (hd : decode (m_code X) pc = .ok (.castore, 1)) (hP : m_P g M H) (hM : m_Mst g M) (hS : va_S (m_A g) s.heap H locs)
    (kk : ∀ (H1 : Heap) (locs1 : List Loc), m_P g (m_set M a b cc i.toNatClampNeg (m_nc v)) H1 → m_Mst g (m_set M a b cc i.toNatClampNeg (m_nc v)) → va_S (m_A g) s.heap H1 locs1 → W p l e R s m args below meth c H1 locs1 cells slots Q (F0 m (pc + 1) ls rest)) : W p l e R s m args below meth c H locs cells slots Q (F0 m pc ls (.int v :: .int i :: .ref (g.1 a b cc) :: rest)) := by
  obtain ⟨hx, hb, hml, hown, hts, -, -, -, hK, hap, -⟩ := C
  obtain ⟨j, hj⟩ := List.getElem?_of_mem (m_DL_mem hm (m_wr_lt a hw))
  have he := m_wl_at (g := g) (M := M) hj
  rw [m_en_int ht (Or.inr (Or.inr rfl))] at he
  refine va_cast hx hb hK.1 hP (m_ap_D hap M) hS j 3 he (m_tys_at g (by decide) (by decide)) (m_in_s hin) hd (fun H1 locs1 hP1 _ hS1 => kk H1 locs1 ?_ (m_Mst_set hM (m_wr_lt a hw)) hS1)
  rw [m_set_e (v := 0) (f := i.toNatClampNeg) (w := m_nc v) hj (by rw [m_en_int ht (Or.inr (Or.inr rfl))]; rfl)] at hP1
  exact hP1
theorem m_aald_s (C : m_C g X p l R s m args meth c) {i : Int32} (ht : m_at a = 5) (ha : a < 24) (hm : m_dom a b cc = true) (hin : m_in i (m_al a) = true) (hd : decode (m_code X) pc = .ok (.aaload, 1)) (hP : m_P g M H)
    (kk : W p l e R s m args below meth c H locs cells slots Q (F0 m (pc + 1) ls (m_tv g (.ref (m_ra a b cc i.toNatClampNeg (M a b cc i.toNatClampNeg))) :: rest))) : W p l e R s m args below meth c H locs cells slots Q (F0 m pc ls (.int i :: .ref (g.1 a b cc) :: rest)) := by
  obtain ⟨hx, hb, hml, hown, hts, -, -, -, hK, hap, -⟩ := C
  obtain ⟨j, hj⟩ := List.getElem?_of_mem (m_DL_mem hm ha)
  have he := m_wl_at (g := g) (M := M) hj
  rw [m_en_ref ht] at he
  have hr : m_rc a = 5 ∨ m_rc a = 6 ∨ m_rc a = 7 ∨ m_rc a = 8 := by
    unfold m_rc
    split <;> simp
  have hty : ∃ C, m_rty (m_rc a) = .object C := by
    rcases hr with h | h | h | h <;> (rw [h]; exact ⟨_, rfl⟩)
  obtain ⟨C9, hC9⟩ := hty
  have htt := m_tys_at g (t := m_rc a) (by omega) (by omega)
  rw [hC9] at htt
  exact va_aldq hx hb hK.1 hP j (m_rc a) he htt (m_in_s hin) hd kk
theorem m_aast_s (C : m_C g X p l R s m args meth c) {i : Int32} {vb : Nat} (hm : m_dom 4 b cc = true) (hin : m_in i (m_al 4) = true) (h3 : 3 ≤ vb) (h9 : vb < 9) (hd : decode (m_code X) pc = .ok (.aastore, 1)) (hP : m_P g M H) (hM : m_Mst g M) (hS : va_S (m_A g) s.heap H locs)
    (kk : ∀ (H1 : Heap) (locs1 : List Loc), m_P g (m_set M 4 b cc i.toNatClampNeg (nI (vb - 3))) H1 → m_Mst g (m_set M 4 b cc i.toNatClampNeg (nI (vb - 3))) → va_S (m_A g) s.heap H1 locs1 → W p l e R s m args below meth c H1 locs1 cells slots Q (F0 m (pc + 1) ls rest)) : W p l e R s m args below meth c H locs cells slots Q (F0 m pc ls (.ref (g.1 7 vb 0) :: .int i :: .ref (g.1 4 b cc) :: rest)) := by
  obtain ⟨hx, hb, hml, hown, hts, -, -, -, hK, hap, -⟩ := C
  obtain ⟨j, hj⟩ := List.getElem?_of_mem (m_DL_mem hm (by decide))
  have he := m_wl_at (g := g) (M := M) hj
  rw [m_en_ref (a := 4) rfl] at he
  have hm7 : m_dom 7 vb 0 = true := by
    show (Nat.blt vb 9 && true) = true
    rw [show Nat.blt vb 9 = true from Nat.ble_eq_true_of_le h9]
    rfl
  obtain ⟨j7, hj7⟩ := List.getElem?_of_mem (m_DL_mem hm7 (by decide))
  have he7 := m_wl_at (g := g) (M := M) hj7
  rw [m_en_obj (a := 7) rfl] at he7
  have htt := m_tys_at g (t := m_rc 4) (by decide) (by decide)
  refine va_astq hx hb hK.1 hP (m_ap_D hap M) hS j (m_rc 4) j7 (m_ci 7) (r := (m_cn (m_ci 7), m_T (m_ci 7), m_n (m_ci 7))) he htt he7 (m_vw (m_ci 7) (by decide)) (m_in_s hin) hd (fun H1 locs1 hP1 _ hS1 => kk H1 locs1 ?_ (m_Mst_set hM (by decide)) hS1)
  rw [m_set_e (v := 0) (f := i.toNatClampNeg) (w := nI (vb - 3)) hj (by
    rw [m_en_ref (a := 4) rfl]
    congr 7
    funext z
    unfold va_up upd
    by_cases hz : z = i.toNatClampNeg
    · rw [if_pos hz, if_pos hz]
      show some (g.1 7 vb 0) = some (g.1 (m_ka (m_lc 7 (3 + (nI (vb - 3)).toNatClampNeg) 0)) (m_kb (m_lc 7 (3 + (nI (vb - 3)).toNatClampNeg) 0)) (m_kc (m_lc 7 (3 + (nI (vb - 3)).toNatClampNeg) 0)))
      rw [m_ka_s, m_kb_s, m_kc_s, nI_clamp (by omega), show 3 + (vb - 3) = vb by omega]
    · rw [if_neg hz, if_neg hz])] at hP1
  exact hP1
theorem m_gets_s (C : m_C g X p l R s m args meth c) (hf : m_look (m_ST (m_nth m_ownL X)) k = some a) (hd : decode (m_code X) pc = .ok (.getstatic k, 3)) (hS : va_S (m_A g) s.heap H locs)
    (kk : W p l e R s m args below meth c H locs cells slots Q (F0 m (pc + 3) ls (m_tv g (.ref (m_lc a 0 0)) :: rest))) : W p l e R s m args below meth c H locs cells slots Q (F0 m pc ls rest) := by
  obtain ⟨hx, hb, hml, hown, hts, -, -, -, hK, hap, -⟩ := C
  obtain ⟨ha, hw⟩ := m_ST_ok hf
  have e : m_tv g (.ref (m_lc a 0 0)) = .ref (g.1 a 0 0) := by
    show Value.ref (g.1 (m_ka (m_lc a 0 0)) (m_kb (m_lc a 0 0)) (m_kc (m_lc a 0 0))) = _
    rw [m_ka_s, m_kb_s, m_kc_s]
  rw [e] at kk
  obtain ⟨-, -, ⟨z1, -⟩, ⟨z2, -⟩, -⟩ := hK
  rcases ha with rfl | rfl
  · exact va_gets hx hb z1 hS hown (hts _ hw) (fun _ h => h) hd kk
  · exact va_gets hx hb z2 hS hown (hts _ hw) (fun _ h => h) hd kk
theorem m_alen_s (C : m_C g X p l R s m args meth c) (hd : decode (m_code X) pc = .ok (.arraylength, 1)) (hM : m_Mst g M) (hS : va_S (m_A g) s.heap H locs)
    (kk : W p l e R s m args below meth c H locs cells slots Q (F0 m (pc + 1) ls (.int (M 27 0 0 0) :: rest))) : W p l e R s m args below meth c H locs cells slots Q (F0 m pc ls (.ref (g.1 26 0 0) :: rest)) := by
  obtain ⟨hx, hb, hml, hown, hts, -, -, -, hK, hap, -⟩ := C
  obtain ⟨-, ⟨hX, hbl, hbA⟩, -⟩ := hK
  rw [hM.2.2.2.1] at kk
  exact va_slen hx hb hX hbl hbA hS hd kk
theorem m_cpy_s (C : m_C g X p l R s m args meth c) {b2 c2 : Nat} (hls : ls.size = m_nth m_mlL X) (hn : m_look (m_NA (m_nth m_ownL X)) k = some 1) (hdep : 1 ≤ m_nth m_depL X) (hsz : (rest.map fun v => v.category).sum ≤ 8) (hm : m_dom 11 b cc = true) (hm2 : m_dom 11 b2 c2 = true) (hd : decode (m_code X) pc = .ok (.invokestatic k, 3)) (hP : m_P g M H) (hM : m_Mst g M) (hS : va_S (m_A g) s.heap H locs)
    (kk : ∀ (H1 : Heap) (locs1 : List Loc), m_P g (m_cpy M 11 b cc b2 c2) H1 → m_Mst g (m_cpy M 11 b cc b2 c2) → va_S (m_A g) s.heap H1 locs1 → W p l e R s m args below meth c H1 locs1 cells slots Q (F0 m (pc + 3) ls rest)) : W p l e R s m args below meth c H locs cells slots Q (F0 m pc ls (.int 5 :: .int 0 :: .ref (g.1 11 b cc) :: .int 0 :: .ref (g.1 11 b2 c2) :: rest)) := by
  obtain ⟨hx, hb, hml, hown, hts, hR, -, -, hK, hap, -⟩ := C
  obtain ⟨j, hj⟩ := List.getElem?_of_mem (m_DL_mem hm (by decide))
  have he := m_wl_at (g := g) (M := M) hj
  rw [m_en_int (a := 11) (t := 1) rfl (Or.inl rfl)] at he
  obtain ⟨j2, hj2⟩ := List.getElem?_of_mem (m_DL_mem hm2 (by decide))
  have he2 := m_wl_at (g := g) (M := M) hj2
  rw [m_en_int (a := 11) (t := 1) rfl (Or.inl rfl)] at he2
  have hw := m_NAc hn
  have h01 : m_nth m_depL X ≤ R.frames := hR.1
  have h02 : 40 * m_nth m_depL X ≤ R.locals := hR.2
  have hnf : nativeFrameWords "java/lang/System" "arraycopy" 5 ≤ 12 := by decide
  refine va_copyi hx hb (hml.trans hls.symm) hown (hts _ (hw _ (by simp))) (hts _ (hw _ (by simp))) (hts _ (hw _ (by simp))) (hts _ (hw _ (by simp))) hK.1 hP (m_ap_D hap M) hS j2 j 1 1 he2 he (m_tys_at g (by decide) (by decide)) (m_tys_at g (by decide) (by decide)) rfl
    (by decide) (by decide) (by decide) (by decide) (by decide) (fun i hi => rfl) (by omega) (by omega) hd (fun H1 locs1 hP1 _ hS1 => kk H1 locs1 ?_ ?_ hS1)
  · have e : (m_ws g M).set j (g.1 11 b cc, .inl (g.2.2.1 1, m_al 11, .inl (va_cpy (M 11 b2 c2) (M 11 b cc) (0 : Int32).toNatClampNeg (0 : Int32).toNatClampNeg (5 : Int32).toNatClampNeg))) = m_ws g (m_cpy M 11 b cc b2 c2) := by
      refine m_wl_set (q := (11, b, cc)) m_DL_nd hj (fun q _ hq => ?_) ?_
      · funext z
        unfold m_cpy
        rw [if_neg]
        rintro ⟨h1, h2, h3⟩
        exact hq (by rw [← h1, ← h2, ← h3])
      · show _ = m_en g (11, b, cc) (m_cpy M 11 b cc b2 c2 11 b cc)
        rw [m_en_int (a := 11) (t := 1) rfl (Or.inl rfl)]
        congr 4
        funext z
        unfold m_cpy
        rw [if_pos ⟨rfl, rfl, rfl⟩]
        rfl
    rw [e] at hP1
    exact hP1
  · have key : ∀ a' b' c' k', 24 ≤ a' → m_cpy M 11 b cc b2 c2 a' b' c' k' = M a' b' c' k' := by
      intro a' b' c' k' h'
      unfold m_cpy
      rw [if_neg (fun q => by omega)]
    obtain ⟨h1, h2, h3, h4, h5⟩ := hM
    exact ⟨fun j hj => by rw [key _ _ _ _ (by decide)]; exact h1 j hj, fun j hj => by rw [key _ _ _ _ (by decide)]; exact h2 j hj, fun j hj => by rw [key _ _ _ _ (by decide)]; exact h3 j hj, by rw [key _ _ _ _ (by decide)]; exact h4, h5⟩
end MEM
