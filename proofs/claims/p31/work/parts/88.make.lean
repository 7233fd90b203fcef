/-! MAKING OBJECTS: words, worlds, the constructors of the small classes (head by wip/gen31/g88.py). -/
theorem jo_in : (Cond.instanceMethod ⟨"java/lang/Object", "<init>", "()V"⟩ : Cond) ∈ lw_g := m_at_ws (ps := [28]) (ws := [_]) (by decide +kernel) (by decide +kernel) _ List.mem_cons_self
theorem jo_co : (Cond.code ⟨"java/lang/Object", "<init>", "()V"⟩ object_method_1_code 1 none : Cond) ∈ lw_g := m_at_ws (ps := [29]) (ws := [_]) (by decide +kernel) (by decide +kernel) _ List.mem_cons_self
theorem jo_0 : (Cond.methodLink "FineScrip$Camp" 3 ⟨"java/lang/Object", "<init>", "()V"⟩ : Cond) ∈ lw_g := m_at_ws (ps := [35]) (ws := [_]) (by decide +kernel) (by decide +kernel) _ List.mem_cons_self
theorem ji_0 : (Cond.initialized "FineScrip$Camp" : Cond) ∈ lw_g := m_at_ws (ps := [10]) (ws := [_]) (by decide +kernel) (by decide +kernel) _ List.mem_cons_self
theorem jm_0 : (Cond.instanceMethod ⟨"FineScrip$Camp", "<init>", "()V"⟩ : Cond) ∈ lw_g := m_at_ws (ps := [33]) (ws := [_]) (by decide +kernel) (by decide +kernel) _ List.mem_cons_self
theorem js_0 : (Cond.instantiable "FineScrip$Camp" 10 : Cond) ∈ lw_g := m_at_ws (ps := [31]) (ws := [_]) (by decide +kernel) (by decide +kernel) _ List.mem_cons_self
theorem jo_1 : (Cond.methodLink "FineScrip$Claim" 3 ⟨"java/lang/Object", "<init>", "()V"⟩ : Cond) ∈ lw_g := m_at_ws (ps := [102]) (ws := [_]) (by decide +kernel) (by decide +kernel) _ List.mem_cons_self
theorem ji_1 : (Cond.initialized "FineScrip$Claim" : Cond) ∈ lw_g := m_at_ws (ps := [13]) (ws := [_]) (by decide +kernel) (by decide +kernel) _ List.mem_cons_self
theorem jm_1 : (Cond.instanceMethod ⟨"FineScrip$Claim", "<init>", "()V"⟩ : Cond) ∈ lw_g := m_at_ws (ps := [100]) (ws := [_]) (by decide +kernel) (by decide +kernel) _ List.mem_cons_self
theorem js_1 : (Cond.instantiable "FineScrip$Claim" 6 : Cond) ∈ lw_g := m_at_ws (ps := [98]) (ws := [_]) (by decide +kernel) (by decide +kernel) _ List.mem_cons_self
theorem jo_2 : (Cond.methodLink "FineScrip$DayText" 5 ⟨"java/lang/Object", "<init>", "()V"⟩ : Cond) ∈ lw_g := m_at_ws (ps := [172]) (ws := [_]) (by decide +kernel) (by decide +kernel) _ List.mem_cons_self
theorem ji_2 : (Cond.initialized "FineScrip$DayText" : Cond) ∈ lw_g := m_at_ws (ps := [14]) (ws := [_]) (by decide +kernel) (by decide +kernel) _ List.mem_cons_self
theorem jm_2 : (Cond.instanceMethod ⟨"FineScrip$DayText", "<init>", "()V"⟩ : Cond) ∈ lw_g := m_at_ws (ps := [170]) (ws := [_]) (by decide +kernel) (by decide +kernel) _ List.mem_cons_self
theorem js_2 : (Cond.instantiable "FineScrip$DayText" 6 : Cond) ∈ lw_g := m_at_ws (ps := [168]) (ws := [_]) (by decide +kernel) (by decide +kernel) _ List.mem_cons_self
theorem jo_3 : (Cond.methodLink "FineScrip$Digger" 3 ⟨"java/lang/Object", "<init>", "()V"⟩ : Cond) ∈ lw_g := m_at_ws (ps := [64]) (ws := [_]) (by decide +kernel) (by decide +kernel) _ List.mem_cons_self
theorem ji_3 : (Cond.initialized "FineScrip$Digger" : Cond) ∈ lw_g := m_at_ws (ps := [12]) (ws := [_]) (by decide +kernel) (by decide +kernel) _ List.mem_cons_self
theorem jm_3 : (Cond.instanceMethod ⟨"FineScrip$Digger", "<init>", "()V"⟩ : Cond) ∈ lw_g := m_at_ws (ps := [62]) (ws := [_]) (by decide +kernel) (by decide +kernel) _ List.mem_cons_self
theorem js_3 : (Cond.instantiable "FineScrip$Digger" 8 : Cond) ∈ lw_g := m_at_ws (ps := [60]) (ws := [_]) (by decide +kernel) (by decide +kernel) _ List.mem_cons_self
theorem jo_4 : (Cond.methodLink "FineScrip$Gold" 1 ⟨"java/lang/Object", "<init>", "()V"⟩ : Cond) ∈ lw_g := m_at_ws (ps := [46]) (ws := [_]) (by decide +kernel) (by decide +kernel) _ List.mem_cons_self
theorem ji_4 : (Cond.initialized "FineScrip$Gold" : Cond) ∈ lw_g := m_at_ws (ps := [11]) (ws := [_]) (by decide +kernel) (by decide +kernel) _ List.mem_cons_self
theorem jm_4 : (Cond.instanceMethod ⟨"FineScrip$Gold", "<init>", "()V"⟩ : Cond) ∈ lw_g := m_at_ws (ps := [44]) (ws := [_]) (by decide +kernel) (by decide +kernel) _ List.mem_cons_self
theorem js_4 : (Cond.instantiable "FineScrip$Gold" 3 : Cond) ∈ lw_g := m_at_ws (ps := [42]) (ws := [_]) (by decide +kernel) (by decide +kernel) _ List.mem_cons_self
theorem jo_5 : (Cond.methodLink "FineScrip" 1 ⟨"java/lang/Object", "<init>", "()V"⟩ : Cond) ∈ lw_g := m_at_ws (ps := [27]) (ws := [_]) (by decide +kernel) (by decide +kernel) _ List.mem_cons_self
theorem ji_5 : (Cond.initialized "FineScrip" : Cond) ∈ lw_g := m_at_ws (ps := [9]) (ws := [_]) (by decide +kernel) (by decide +kernel) _ List.mem_cons_self
theorem jm_5 : (Cond.instanceMethod ⟨"FineScrip", "<init>", "()V"⟩ : Cond) ∈ lw_g := m_at_ws (ps := [25]) (ws := [_]) (by decide +kernel) (by decide +kernel) _ List.mem_cons_self
theorem js_5 : (Cond.instantiable "FineScrip" 6 : Cond) ∈ lw_g := m_at_ws (ps := [23]) (ws := [_]) (by decide +kernel) (by decide +kernel) _ List.mem_cons_self
theorem jl_03 : (Cond.classLink "FineScrip$Camp" 9 "FineScrip$Digger" : Cond) ∈ lw_g := m_at_ws (ps := [36]) (ws := [_]) (by decide +kernel) (by decide +kernel) _ List.mem_cons_self
theorem jl_01 : (Cond.classLink "FineScrip$Camp" 17 "FineScrip$Claim" : Cond) ∈ lw_g := m_at_ws (ps := [38]) (ws := [_]) (by decide +kernel) (by decide +kernel) _ List.mem_cons_self
theorem jl_04 : (Cond.classLink "FineScrip$Camp" 23 "FineScrip$Gold" : Cond) ∈ lw_g := m_at_ws (ps := [40]) (ws := [_]) (by decide +kernel) (by decide +kernel) _ List.mem_cons_self
theorem jl_50 : (Cond.classLink "FineScrip" 7 "FineScrip$Camp" : Cond) ∈ lw_g := m_at_ws (ps := [30]) (ws := [_]) (by decide +kernel) (by decide +kernel) _ List.mem_cons_self
theorem jl_52 : (Cond.classLink "FineScrip" 16 "FineScrip$DayText" : Cond) ∈ lw_g := m_at_ws (ps := [167]) (ws := [_]) (by decide +kernel) (by decide +kernel) _ List.mem_cons_self
theorem jl_L5 : (Cond.classLink "FineScripLaw" 8 "FineScrip" : Cond) ∈ lw_g := m_at_ws (ps := [22]) (ws := [_]) (by decide +kernel) (by decide +kernel) _ List.mem_cons_self
theorem jc_50 : (Cond.methodLink "FineScrip" 9 ⟨"FineScrip$Camp", "<init>", "()V"⟩ : Cond) ∈ lw_g := m_at_ws (ps := [32]) (ws := [_]) (by decide +kernel) (by decide +kernel) _ List.mem_cons_self
theorem jc_L5 : (Cond.methodLink "FineScripLaw" 164 ⟨"FineScrip", "<init>", "()V"⟩ : Cond) ∈ lw_g := m_at_ws (ps := [24]) (ws := [_]) (by decide +kernel) (by decide +kernel) _ List.mem_cons_self
theorem ja_int : (Cond.arrayClass .int : Cond) ∈ lw_g := m_at_ws (ps := [97]) (ws := [_]) (by decide +kernel) (by decide +kernel) _ List.mem_cons_self
theorem ja_char : (Cond.arrayClass .char : Cond) ∈ lw_g := m_at_ws (ps := [196]) (ws := [_]) (by decide +kernel) (by decide +kernel) _ List.mem_cons_self
theorem ja_boolean : (Cond.arrayClass .boolean : Cond) ∈ lw_g := m_at_ws (ps := [217]) (ws := [_]) (by decide +kernel) (by decide +kernel) _ List.mem_cons_self
theorem jf_0_diggers : (Cond.fieldLink "FineScrip$Camp" 11 "FineScrip$Camp" "diggers" "[LFineScrip$Digger;" : Cond) ∈ lw_g := m_at_ws (ps := [129]) (ws := [_]) (by decide +kernel) (by decide +kernel) _ List.mem_cons_self
theorem jf_0_claims : (Cond.fieldLink "FineScrip$Camp" 19 "FineScrip$Camp" "claims" "[LFineScrip$Claim;" : Cond) ∈ lw_g := m_at_ws (ps := [131]) (ws := [_]) (by decide +kernel) (by decide +kernel) _ List.mem_cons_self
theorem jf_0_bars : (Cond.fieldLink "FineScrip$Camp" 25 "FineScrip$Camp" "bars" "[LFineScrip$Gold;" : Cond) ∈ lw_g := m_at_ws (ps := [133]) (ws := [_]) (by decide +kernel) (by decide +kernel) _ List.mem_cons_self
theorem jf_0_lot : (Cond.fieldLink "FineScrip$Camp" 30 "FineScrip$Camp" "lot" "LFineScrip$Gold;" : Cond) ∈ lw_g := m_at_ws (ps := [134]) (ws := [_]) (by decide +kernel) (by decide +kernel) _ List.mem_cons_self
theorem jf_0_settings : (Cond.fieldLink "FineScrip$Camp" 34 "FineScrip$Camp" "settings" "[I" : Cond) ∈ lw_g := m_at_ws (ps := [135]) (ws := [_]) (by decide +kernel) (by decide +kernel) _ List.mem_cons_self
theorem jf_1_fineness : (Cond.fieldLink "FineScrip$Claim" 9 "FineScrip$Claim" "fineness" "I" : Cond) ∈ lw_g := m_at_ws (ps := [103]) (ws := [_]) (by decide +kernel) (by decide +kernel) _ List.mem_cons_self
theorem jf_1_digger : (Cond.fieldLink "FineScrip$Claim" 15 "FineScrip$Claim" "digger" "I" : Cond) ∈ lw_g := m_at_ws (ps := [106]) (ws := [_]) (by decide +kernel) (by decide +kernel) _ List.mem_cons_self
theorem jf_2_signs : (Cond.fieldLink "FineScrip$DayText" 11 "FineScrip$DayText" "signs" "[C" : Cond) ∈ lw_g := m_at_ws (ps := [173]) (ws := [_]) (by decide +kernel) (by decide +kernel) _ List.mem_cons_self
theorem jf_3_claim : (Cond.fieldLink "FineScrip$Digger" 9 "FineScrip$Digger" "claim" "I" : Cond) ∈ lw_g := m_at_ws (ps := [68]) (ws := [_]) (by decide +kernel) (by decide +kernel) _ List.mem_cons_self
theorem jf_5_camp : (Cond.fieldLink "FineScrip" 10 "FineScrip" "camp" "LFineScrip$Camp;" : Cond) ∈ lw_g := m_at_ws (ps := [198]) (ws := [_]) (by decide +kernel) (by decide +kernel) _ List.mem_cons_self
theorem jf_5_text : (Cond.fieldLink "FineScrip" 19 "FineScrip" "text" "LFineScrip$DayText;" : Cond) ∈ lw_g := m_at_ws (ps := [199]) (ws := [_]) (by decide +kernel) (by decide +kernel) _ List.mem_cons_self
theorem jf_5_slots : (Cond.fieldLink "FineScrip" 23 "FineScrip" "slots" "[LFineScrip$Camp;" : Cond) ∈ lw_g := m_at_ws (ps := [200]) (ws := [_]) (by decide +kernel) (by decide +kernel) _ List.mem_cons_self
theorem jf_5_slotTaken : (Cond.fieldLink "FineScrip" 27 "FineScrip" "slotTaken" "[Z" : Cond) ∈ lw_g := m_at_ws (ps := [201]) (ws := [_]) (by decide +kernel) (by decide +kernel) _ List.mem_cons_self
theorem jf_5_saved : (Cond.fieldLink "FineScrip" 31 "FineScrip" "saved" "[LFineScrip$Camp;" : Cond) ∈ lw_g := m_at_ws (ps := [202]) (ws := [_]) (by decide +kernel) (by decide +kernel) _ List.mem_cons_self
def j_nests : List Cond := [.methodLinkNest "FineScrip$Camp" 29 ⟨"FineScrip$Gold", "<init>", "()V"⟩ "FineScrip", .methodLinkNest "FineScrip$Camp" 38 ⟨"FineScrip$Digger", "<init>", "()V"⟩ "FineScrip", .methodLinkNest "FineScrip$Camp" 39 ⟨"FineScrip$Claim", "<init>", "()V"⟩ "FineScrip", .methodLinkNest "FineScrip" 18 ⟨"FineScrip$DayText", "<init>", "()V"⟩ "FineScrip"]
theorem j_nests_warm : ∀ w ∈ j_nests, ∀ {s U : State}, s.WarmedH U.vm → va_Nw w s → va_Nw w U := List.forall_mem_cons.mpr ⟨fun hW hZ => va_Nw.warmM hW hZ, List.forall_mem_cons.mpr ⟨fun hW hZ => va_Nw.warmM hW hZ, List.forall_mem_cons.mpr ⟨fun hW hZ => va_Nw.warmM hW hZ, List.forall_mem_cons.mpr ⟨fun hW hZ => va_Nw.warmM hW hZ, fun _ h => absurd h List.not_mem_nil⟩⟩⟩⟩
theorem j_nests_tbl : ∀ w ∈ j_nests, w ∈ lw_tbl := by decide +kernel
theorem j_nests_ot : ∀ w ∈ j_nests, w.onTables = true := by decide +kernel
theorem j_ao_tbl : ∀ C ∈ ["FineScrip$Camp", "FineScrip$Digger", "FineScrip$Claim", "FineScrip$Gold"], (Cond.arrayOver (.object C)) ∈ lw_tbl := by decide +kernel
/-- the array classes' numbers -/
def j_ca (ca : Nat → ClassId) (U : State) : Prop := ∀ t, ca t = (U.vm.findClass ("[" ++ (m_rty t).toString)).getD (ca t)
theorem j_name {U : State} {cA : ClassId} : ∀ {ty : FieldType}, va_RA U cA ty → U.vm.findClass ("[" ++ ty.toString) = some cA := by
  intro ty h
  cases ty with
  | object C => obtain ⟨kA, comp, h1, h2, h3, h4⟩ := h; exact h4
  | _ => exact h
theorem j_uni {D : va_G} {cl : List vw_C} {tys : List (ClassId × FieldType)} {s : State} {ca : Nat → ClassId} {cA : ClassId} {t : Nat} (hK : va_K D cl (tys ++ [(cA, m_rty t)]) s) (hc : j_ca ca s) : cA = ca t := by
  have h := (hK.2 tys.length (cA, m_rty t) (by simp)).2
  have h2 := hc t
  rw [j_name h] at h2
  exact h2.symm
/-- what making objects asks for -/
def j_env (D : va_G) (ca : Nat → ClassId) (U : State) : Prop := va_K D vwCl [] U ∧ j_ca ca U ∧ (∀ w ∈ j_nests, va_Nw w U) ∧ ∀ C ∈ ["FineScrip$Camp", "FineScrip$Digger", "FineScrip$Claim", "FineScrip$Gold"], va_AO C U
theorem j_env_moved {D : va_G} {ca : Nat → ClassId} {s U : State} (h : j_env D ca s) (hW : s.WarmedH U.vm) : j_env D ca U := by
  obtain ⟨h1, h2, h3, h4⟩ := h
  refine ⟨va_K.moved hW.alike h1, fun t => ?_, fun w hw => j_nests_warm w hw hW (h3 w hw), fun C hC => va_AO.moved hW.alike (h4 C hC)⟩
  rw [hW.alike.findClass]
  exact h2 t
theorem j_env_same {D : va_G} {ca : Nat → ClassId} {s U : State} (h : j_env D ca s) (hv : U.vm = s.vm) : j_env D ca U := j_env_moved h (by rw [hv]; exact State.WarmedH.refl s)
-- worlds that end in a new cell
theorem j_rg {α : Type} (W T : List α) : (List.range W.length).map (fun i => (W ++ T)[i]?) = W.map some := by
  apply List.ext_getElem?
  intro i
  rw [List.getElem?_map, List.getElem?_map]
  by_cases h : i < W.length
  · rw [List.getElem?_range h]
    show some ((W ++ T)[i]?) = _
    rw [List.getElem?_append_left h]
    cases hw : W[i]? with
    | none => exact absurd (List.getElem?_eq_none_iff.mp hw) (by omega)
    | some x => rfl
  · rw [List.getElem?_eq_none (by simp; omega), List.getElem?_eq_none (by omega)]
    rfl
theorem j_nd_of : ∀ l : List Nat, l.Nodup → va_nd l = true
  | [], _ => rfl
  | a :: l, h => by
    obtain ⟨h1, h2⟩ := List.nodup_cons.mp h
    show (decide (a ∉ l) && va_nd l) = true
    rw [decide_eq_true h1, j_nd_of l h2]
    rfl
theorem j_last {α : Type} (W : List α) (x : α) : [W.length].map (fun i => (W ++ [x])[i]?) = [x].map some := by simp
theorem j_join {A0 : Nat → Prop} {D : va_G} {cl : List vw_C} {W w1 : va_W} {x : Nat × va_E} {H H1 : Heap} (hP : va_P D cl (W ++ [x]) H) (hD : va_D A0 (W ++ [x])) (hk : ∀ q : Nat, q < H.size → ¬ va_A [x] H.size q → H1[q]? = H[q]?) (hF : ∀ q, va_A [x] H.size q → A0 q) (hP1 : va_P D cl w1 H1) (hD1 : va_D (va_A [x] H.size) w1) : va_P D cl (W ++ w1) H1 ∧ va_D A0 (W ++ w1) :=
  va_join hP hD [W.length] (List.range W.length) (j_last W x) (j_rg W [x]) (j_nd_of _ List.nodup_range) (fun i h1 h2 => by
    rw [List.mem_singleton] at h2
    rw [h2] at h1
    exact absurd (List.mem_range.mp h1) (Nat.lt_irrefl _)) hk hF hP1 hD1
theorem j_free {A0 : Nat → Prop} {W : va_W} {x : Nat × va_E} {H0 H : Heap} {locs : List Loc} (hD : va_D A0 (W ++ [x])) (hS : va_S A0 H0 H locs) (hA : ∀ q, H0.size ≤ q → A0 q) : ∀ q, va_A [x] H.size q → A0 q := va_free hD hS hA [W.length] (j_last W x)
theorem j_one {A0 : Nat → Prop} {W : va_W} {x : Nat × va_E} (hD : va_D A0 (W ++ [x])) : va_D (fun _ => True) [x] := (hD.sub [W.length] rfl (j_last W x)).weaken (fun _ _ _ _ => trivial)
theorem j_oneP {D : va_G} {cl : List vw_C} {W : va_W} {x : Nat × va_E} {H : Heap} (hP : va_P D cl (W ++ [x]) H) : va_P D cl [x] H := hP.sub [W.length] (by simp)
/-- the fields of a new object -/
def j_df (ci : Nat) : List Value := match ci with
  | 0 => [.null, .null, .null, .null, .null, .int 0, .int 0, .int 0, .int 0, .int 0]
  | 1 => [.int 0, .int 0, .int 0, .int 0, .int 0, .int 0]
  | 2 => [.null, .int 0, .int 0, .int 0, .int 0, .int 0]
  | 3 => [.int 0, .int 0, .int 0, .int 0, .int 0, .int 0, .int 0, .int 0]
  | 4 => [.int 0, .int 0, .int 0]
  | _ => [.null, .null, .null, .null, .null, .int 0]
def j_x (b ci : Nat) : Nat × va_E := (b, .inr (ci, j_df ci))
/-- a constructor's contract: out of its new object comes the world WY, with the array classes ts -/
def j_rm (mc ms fr : Nat) : Room := { frames := fr, cells := mc, slots := ms, locals := 40 * fr }
def j_Pc (D : va_G) (ca : Nat → ClassId) (ci b sz : Nat) : Array Value → State → Prop := va_Pc [.ref b] (fun U => U.heap.size = sz ∧ va_P D vwCl [j_x b ci] U.heap ∧ j_env D ca U ∧ va_D (fun _ => True) [j_x b ci])
def j_tl (ca : Nat → ClassId) (ts : List Nat) : List (ClassId × FieldType) := ts.map (fun t => (ca t, m_rty t))
def j_Qc {S : Type} (D : va_G) (ca : Nat → ClassId) (ci b sz : Nat) (post : S → Prop) (WY : Nat → S → va_W) (ts : List Nat) : Array Value → State → Outcome → State → Prop :=
  va_Qv post (fun u t => va_P D vwCl (WY b u) t.heap ∧ va_D (va_A [j_x b ci] sz) (WY b u) ∧ va_K D vwCl (j_tl ca ts) t) (va_A [j_x b ci] sz)
def j_Met {S : Type} (l : Launch) (D : va_G) (ca : Nat → ClassId) (Y ci : Nat) (post : S → Prop) (WY : Nat → S → va_W) (ts : List Nat) (mc ms fr : Nat) : Prop :=
  ∀ b sz : Nat, Met l (m_nm Y) (m_wY Y) (j_rm mc ms fr) (j_Pc D ca ci b sz) (j_Qc D ca ci b sz post WY ts) mc ms (va_A [j_x b ci] sz)
theorem j_blind {D : va_G} {ca : Nat → ClassId} {ci b sz : Nat} : FrameBlind (j_Pc D ca ci b sz) := fun _ _ _ _ h => ⟨h.1, h.2.1, h.2.2.1, j_env_same h.2.2.2.1 rfl, h.2.2.2.2⟩
section CALL
variable {p : Program} {l : Launch} {e : Env} {R : Room} {s : State} {m : MethodId} {args : Array Value} {below : List Frame} {meth : Method} {c : Code} {H : Heap} {locs : List Loc} {cells slots : Nat} {Q : State → Prop} {D : va_G} {ca : Nat → ClassId} {A : Nat → Prop} {own : String} {cc : ByteArray} {nL index pc : Nat} {S : Type} {post : S → Prop} {WY : Nat → S → va_W} {ts : List Nat} {Y ci mc ms fr b : Nat} {W0 : va_W} {ls : Array Slot} {rest : List Value}
/-- a constructor is called for the last cell -/
theorem j_call (CF : CallFix p m c cc nL s args lw_g own) (hE : j_env D ca s) (hM : j_Met l D ca Y ci post WY ts mc ms fr)
    (hrun : va_Run p l e R s m args below meth c H locs cells slots mc ms (F0 m pc ls (.ref b :: rest)) rest (j_Qc D ca ci b H.size post WY ts (Value.ref b :: []).toArray) (va_A [j_x b ci] H.size))
    (hP : va_P D vwCl (W0 ++ [j_x b ci]) H) (hD : va_D A (W0 ++ [j_x b ci])) (hS : va_S A s.heap H locs) (hA : ∀ q, s.heap.size ≤ q → A q)
    (kk : ∀ (u : S) (H1 : Heap) (locs1 : List Loc), post u → va_P D vwCl (W0 ++ WY b u) H1 → va_D A (W0 ++ WY b u) → va_K D vwCl (j_tl ca ts) s → va_S A s.heap H1 locs1 → W p l e R s m args below meth c H1 locs1 (cells + mc) (slots + ms) Q (F0 m (pc + 3) ls rest)) :
    W p l e R s m args below meth c H locs cells slots Q (F0 m pc ls (.ref b :: rest)) := by
  have hF := j_free hD hS hA
  refine va_callv hrun hS (fun q _ h => hF q h) hF (fun u t H1 locs1 ht hvm hp hB _ hk hS1 => ?_)
  obtain ⟨hP1, hD1, hK1⟩ := hB
  rw [ht] at hP1
  obtain ⟨g1, g2⟩ := j_join hP hD hk hF hP1 hD1
  exact kk u H1 locs1 hp g1 g2 (va_K.moved hvm.symm hK1) hS1
theorem j_callN (CF : CallFix p m c cc nL s args lw_g own) (hE : j_env D ca s) (hM : j_Met l D ca Y ci post WY ts mc ms fr) (hY : Y ∈ m_Xs) (hh : m_hh Y = []) (hn : (m_nm Y).name = "<init>") (hpa : (parseMethodDescriptor (m_nm Y).desc).map (fun d => d.parameters.length) = some 0) (hrt : m_rt Y = none)
    (hmh : (m_nm Y).cls ≠ "java/lang/invoke/MethodHandle" ∧ (m_nm Y).cls ≠ "java/lang/invoke/VarHandle") (hin : Cond.instanceMethod (m_nm Y) ∈ lw_g) (hini : Cond.initialized (m_nm Y).cls ∈ lw_g) (hnest : Cond.methodLinkNest own index (m_nm Y) "FineScrip" ∈ j_nests) (hdg : decode cc pc = .ok (.invokespecial index, 3))
    (hR : fr + 1 ≤ R.frames ∧ 8 + (m_ml Y + 11) + 40 * fr ≤ R.locals) (hRR : cells + mc ≤ R.cells ∧ slots + ms ≤ R.slots) (hls : ls.size = nL) (hrest : (rest.map fun v => v.category).sum ≤ 8)
    (hP : va_P D vwCl (W0 ++ [j_x b ci]) H) (hD : va_D A (W0 ++ [j_x b ci])) (hS : va_S A s.heap H locs) (hA : ∀ q, s.heap.size ≤ q → A q)
    (kk : ∀ (u : S) (H1 : Heap) (locs1 : List Loc), post u → va_P D vwCl (W0 ++ WY b u) H1 → va_D A (W0 ++ WY b u) → va_K D vwCl (j_tl ca ts) s → va_S A s.heap H1 locs1 → W p l e R s m args below meth c H1 locs1 (cells + mc) (slots + ms) Q (F0 m (pc + 3) ls rest)) :
    W p l e R s m args below meth c H locs cells slots Q (F0 m pc ls (.ref b :: rest)) := by
  have hw : m_wY Y = Cond.code (m_nm Y) (m_code Y) (m_ml Y) none :: lw_g := by
    show m_cwr (m_row Y) :: lw_g = _
    rw [m_cwr_0 hh, hrt]
  have cn := va_cnB (R := R) (mc := mc) (ms := ms) (rm := j_rm mc ms fr) 0 CF.2.2.2.2 (m_gi (m_wY_in hY)) hw rfl rfl (hE.2.2.1 _ hnest) (CF.2.2.2.2 _ hini) ⟨hmh.1, hmh.2, hpa⟩ hR
  refine j_call CF hE hM (va_runIN (As := []) CF (hM b H.size) ⟨cn, hn, CF.2.2.2.2 _ hin⟩ ⟨j_blind, fun U hU hW => ⟨rfl, by rw [hU], by rw [hU]; exact j_oneP hP, j_env_moved hE hW, j_one hD⟩⟩ rfl rfl hls rfl ?_ hdg hRR) hP hD hS hA kk
  show 2 * 0 + _ ≤ 8
  omega
theorem j_callI (CF : CallFix p m c cc nL s args lw_g own) (hE : j_env D ca s) (hM : j_Met l D ca Y ci post WY ts mc ms fr) (hY : Y ∈ m_Xs) (hh : m_hh Y = []) (hn : (m_nm Y).name = "<init>") (hpa : (parseMethodDescriptor (m_nm Y).desc).map (fun d => d.parameters.length) = some 0) (hrt : m_rt Y = none)
    (hmh : (m_nm Y).cls ≠ "java/lang/invoke/MethodHandle" ∧ (m_nm Y).cls ≠ "java/lang/invoke/VarHandle") (hin : Cond.instanceMethod (m_nm Y) ∈ lw_g) (hini : Cond.initialized (m_nm Y).cls ∈ lw_g) (hlink : Cond.methodLink own index (m_nm Y) ∈ lw_g) (hdg : decode cc pc = .ok (.invokespecial index, 3))
    (hR : fr + 1 ≤ R.frames ∧ 8 + (m_ml Y + 11) + 40 * fr ≤ R.locals) (hRR : cells + mc ≤ R.cells ∧ slots + ms ≤ R.slots) (hls : ls.size = nL) (hrest : (rest.map fun v => v.category).sum ≤ 8)
    (hP : va_P D vwCl (W0 ++ [j_x b ci]) H) (hD : va_D A (W0 ++ [j_x b ci])) (hS : va_S A s.heap H locs) (hA : ∀ q, s.heap.size ≤ q → A q)
    (kk : ∀ (u : S) (H1 : Heap) (locs1 : List Loc), post u → va_P D vwCl (W0 ++ WY b u) H1 → va_D A (W0 ++ WY b u) → va_K D vwCl (j_tl ca ts) s → va_S A s.heap H1 locs1 → W p l e R s m args below meth c H1 locs1 (cells + mc) (slots + ms) Q (F0 m (pc + 3) ls rest)) :
    W p l e R s m args below meth c H locs cells slots Q (F0 m pc ls (.ref b :: rest)) := by
  have hw : m_wY Y = Cond.code (m_nm Y) (m_code Y) (m_ml Y) none :: lw_g := by
    show m_cwr (m_row Y) :: lw_g = _
    rw [m_cwr_0 hh, hrt]
  have cw := cwI (R := R) (mc := mc) (ms := ms) (rm := j_rm mc ms fr) 0 CF.2.2.2.2 (m_gi (m_wY_in hY)) hw rfl rfl (CF.2.2.2.2 _ hini) (CF.2.2.2.2 _ hlink) (CF.2.2.2.2 _ hin) hn ⟨hmh.1, hmh.2, hpa⟩ hR
  refine j_call CF hE hM (va_runI (As := []) CF (hM b H.size) cw ⟨j_blind, fun U hU hW => ⟨rfl, by rw [hU], by rw [hU]; exact j_oneP hP, j_env_moved hE hW, j_one hD⟩⟩ rfl rfl hls rfl ?_ hdg hRR) hP hD hS hA kk
  show 2 * 0 + _ ≤ 8
  omega
end CALL
