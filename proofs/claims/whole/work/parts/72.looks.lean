/-! THE OTHER CALLS: texts, snapshots, looks. -/
section LOOKS
variable {M : m_Mem} {n N B L : Nat} {f : String → Option Int32}
/-- a call that only looks -/
theorem z_look {X Y : Nat} {as asm : List Value} {v : Int32} (hT : r_T M M n N B L) (e : m_cl X as M = some (.inl (some (.int v)), M)) (h : ∀ K, r_T M K n N B L → m_cl Y asm K = some (.inl (some (.int v)), k_0 K)) : z_S X Y as asm M f :=
  z_v hT e (fun _ _ _ _ _ => rfl) (fun K hb => ⟨k_0 K, h K hb, fun a b c k h1 => k_0_o _ _ _ _ _ (by omega), m_set_i, n, N, B, L, z_k0 hb⟩)
theorem z_diggerOf (hT : r_T M M n N B L) (h1 : f "java/lang/IndexOutOfBoundsException" = some 1) (h2 : f "java/lang/IllegalArgumentException" = some 2) (d w : Int32) : z_S 80 159 [.ref (m_lc 1 0 0), .int d, .int w] [.ref (m_lc 15 0 0), .int d, .int w] M f := by
  have e := a_diggerOf (z_fI hT) d w
  by_cases c1 : f_has d (M 7 0 0 5) 8 = 0
  · rw [if_pos c1] at e
    refine z_e hT e h1 (by decide) (fun K hb => ?_)
    rw [h_diggerOf (z_kJ hb) d w, z_has hb, if_pos c1]
  · rw [if_neg c1] at e
    by_cases c2 : f_bw w 0 8 = 0
    · rw [if_pos c2] at e
      refine z_e hT e h2 (by decide) (fun K hb => ?_)
      rw [h_diggerOf (z_kJ hb) d w, z_has hb, if_neg c1, if_pos c2]
    · rw [if_neg c2] at e
      refine z_look hT e (fun K hb => ?_)
      have hN := (z_C hT).1.1.1
      obtain ⟨d', d1, rfl⟩ := z_hasd hT c1
      obtain ⟨w', k1, rfl⟩ := f_bw_0n (U := 8) ((f_bw_c w 0 8).resolve_right c2) (by decide)
      rw [h_diggerOf (z_kJ hb) _ _, z_has hb, if_neg c1, if_neg c2, nI_clamp (show d' < 2 ^ 31 by omega), nI_clamp (show w' < 2 ^ 31 by omega), z_dp (z_C (z_k0 hb)) d1 (by omega)]
theorem z_claim (hT : r_T M M n N B L) (h1 : f "java/lang/IllegalArgumentException" = some 1) (c w : Int32) : z_S 81 160 [.ref (m_lc 1 0 0), .int c, .int w] [.ref (m_lc 15 0 0), .int c, .int w] M f := by
  have e := a_claim (M := M) c w
  by_cases c1 : f_bw c 0 9 = 0
  · rw [if_pos c1] at e
    exact z_e hT e h1 (by decide) (fun K hb => (h_claim c w).trans (if_pos c1))
  · rw [if_neg c1] at e
    by_cases c2 : f_bw w 0 4 = 0
    · rw [if_pos c2] at e
      exact z_e hT e h1 (by decide) (fun K hb => (h_claim c w).trans ((if_neg c1).trans (if_pos c2)))
    · rw [if_neg c2] at e
      refine z_look hT e (fun K hb => ?_)
      obtain ⟨c', k1, rfl⟩ := f_bw_0n (U := 9) ((f_bw_c c 0 9).resolve_right c1) (by decide)
      obtain ⟨w', k2, rfl⟩ := f_bw_0n (U := 4) ((f_bw_c w 0 4).resolve_right c2) (by decide)
      rw [h_claim _ _, if_neg c1, if_neg c2, nI_clamp (show c' < 2 ^ 31 by omega), nI_clamp (show w' < 2 ^ 31 by omega), z_cpp (z_C hb) (by omega) (by omega)]
theorem z_bar (hT : r_T M M n N B L) (h1 : f "java/lang/IndexOutOfBoundsException" = some 1) (h2 : f "java/lang/IllegalArgumentException" = some 2) (b w : Int32) : z_S 82 162 [.ref (m_lc 1 0 0), .int b, .int w] [.ref (m_lc 15 0 0), .int b, .int w] M f := by
  have e := a_bar (z_fI hT) b w
  have hB := (z_C hT).1.2.1.1
  have hh : ∀ K, r_T M K n N B L → f_is b (K 16 0 0 5) = f_has b (M 7 0 0 6) 12 := fun K hb => by
    rw [(z_C hb).1.2.1.2.1, (z_C hb).1.2.1.2.2]
    exact f_is_has b B 12 hB (by decide)
  by_cases c1 : f_has b (M 7 0 0 6) 12 = 0
  · rw [if_pos c1] at e
    refine z_e hT e h1 (by decide) (fun K hb => ?_)
    rw [h_bar (z_kJ hb) (z_W (z_C hb)) b w, hh K hb, if_pos c1]
  · rw [if_neg c1] at e
    by_cases c2 : f_bw w 0 4 = 0
    · rw [if_pos c2] at e
      refine z_e hT e h2 (by decide) (fun K hb => ?_)
      rw [h_bar (z_kJ hb) (z_W (z_C hb)) b w, hh K hb, if_neg c1, if_pos c2]
    · rw [if_neg c2] at e
      refine z_look hT e (fun K hb => ?_)
      have c1' := (f_has_c b (M 7 0 0 6) 12).resolve_right c1
      rw [(z_C hT).1.2.1.2.1] at c1'
      obtain ⟨b', d1, rfl⟩ := f_has1 (L := 12) hB (by decide) c1'
      obtain ⟨w', k1, rfl⟩ := f_bw_0n (U := 4) ((f_bw_c w 0 4).resolve_right c2) (by decide)
      rw [h_bar (z_kJ hb) (z_W (z_C hb)) _ _, hh K hb, if_neg c1, if_neg c2, nI_clamp (show b' < 2 ^ 31 by omega), nI_clamp (show w' < 2 ^ 31 by omega), z_bp (z_C (z_k0 hb)) d1 (by omega)]
theorem z_count (hT : r_T M M n N B L) (h1 : f "java/lang/IllegalArgumentException" = some 1) (w : Int32) : z_S 83 166 [.ref (m_lc 1 0 0), .int w] [.ref (m_lc 15 0 0), .int w] M f := by
  have e := a_count (z_fI hT) w
  by_cases c1 : f_bw w 0 16 = 0
  · rw [if_pos c1] at e
    exact z_e hT e h1 (by decide) (fun K hb => (h_count (z_kJ hb) w).trans (if_pos c1))
  · rw [if_neg c1] at e
    refine z_look hT e (fun K hb => ?_)
    obtain ⟨w', k1, rfl⟩ := f_bw_0n (U := 16) ((f_bw_c w 0 16).resolve_right c1) (by decide)
    rw [h_count (z_kJ hb) _, if_neg c1, nI_clamp (show w' < 2 ^ 31 by omega), z_num (z_C (z_k0 hb)) n (by omega)]
theorem z_setting (hT : r_T M M n N B L) (h1 : f "java/lang/IndexOutOfBoundsException" = some 1) (t : Int32) : z_S 84 167 [.ref (m_lc 1 0 0), .int t] [.ref (m_lc 15 0 0), .int t] M f := by
  have e := a_setting (M := M) t
  by_cases c1 : f_bw t 0 4 = 0
  · rw [if_pos c1] at e
    exact z_e hT e h1 (by decide) (fun K hb => (h_setting t).trans (if_pos c1))
  · rw [if_neg c1] at e
    refine z_look hT e (fun K hb => ?_)
    obtain ⟨t', k1, rfl⟩ := f_bw_0n (U := 4) ((f_bw_c t 0 4).resolve_right c1) (by decide)
    rw [h_setting _, if_neg c1, nI_clamp (show t' < 2 ^ 31 by omega)]
    obtain ⟨s0, s1, s2, s3, s4⟩ := (z_C hb).1.2.2.2.2
    have ht : t' = 0 ∨ t' = 1 ∨ t' = 2 ∨ t' = 3 ∨ t' = 4 := by omega
    rcases ht with rfl | rfl | rfl | rfl | rfl
    · rw [s0]
    · rw [s1]
    · rw [s2]
    · rw [s3]
    · rw [s4]
theorem z_ifWeighed (hT : r_T M M n N B L) (h1 : f "java/lang/IllegalArgumentException" = some 1) (g w : Int32) : z_S 85 169 [.ref (m_lc 1 0 0), .int g, .int w] [.ref (m_lc 15 0 0), .int g, .int w] M f := by
  have e := a_ifWeighed (M := M) g w
  by_cases c1 : f_bw g 1 9999 = 0
  · rw [if_pos c1] at e
    exact z_e hT e h1 (by decide) (fun K hb => (h_ifWeighed g w).trans (if_pos c1))
  · rw [if_neg c1] at e
    by_cases c2 : f_bw w 0 2 = 0
    · rw [if_pos c2] at e
      exact z_e hT e h1 (by decide) (fun K hb => (h_ifWeighed g w).trans ((if_neg c1).trans (if_pos c2)))
    · rw [if_neg c2] at e
      refine z_look hT e (fun K hb => ?_)
      obtain ⟨w', k2, rfl⟩ := f_bw_0n (U := 2) ((f_bw_c w 0 2).resolve_right c2) (by decide)
      rw [h_ifWeighed _ _, if_neg c1, if_neg c2, nI_clamp (show w' < 2 ^ 31 by omega), z_iw (z_C (z_k0 hb)) g (by omega)]
theorem z_grainsFor (hT : r_T M M n N B L) (h1 : f "java/lang/IllegalArgumentException" = some 1) (c : Int32) : z_S 86 171 [.ref (m_lc 1 0 0), .int c] [.ref (m_lc 15 0 0), .int c] M f := by
  have e := a_grainsFor (M := M) c
  by_cases c1 : f_bw c 1 9999 = 0
  · rw [if_pos c1] at e
    exact z_e hT e h1 (by decide) (fun K hb => (h_grainsFor c).trans (if_pos c1))
  · rw [if_neg c1] at e
    refine z_look hT e (fun K hb => ?_)
    rw [h_grainsFor c, if_neg c1, r_few (z_C (z_k0 hb))]
-- texts and snapshots
theorem r_Ttxt {M M' K K' : m_Mem} {L' : Nat} (h : r_T M K n N B L) (ht : r_txt M' K' L') (hM : ∀ a b c k, a ≠ 5 → a ≠ 6 → M' a b c k = M a b c k) (hK : ∀ a b c k, a ≠ 20 → a ≠ 21 → ¬ (a = 15 ∧ k ≠ 4) → K' a b c k = K a b c k) : r_T M' K' n N B L' := by
  obtain ⟨t1, t2, t3, t4, t5, t6, t7, t8⟩ := h
  have q := f_q_cg (M := M) (M' := M') (fun i => hM 4 0 0 i (by omega) (by omega))
  refine ⟨?_, ?_, ?_, ?_, ?_, ?_, ht, ?_⟩
  · rw [hM 1 0 0 5 (by omega) (by omega), hK 15 0 0 4 (by omega) (by omega) (by omega)]
    exact t1
  · refine ⟨fun i hi => ?_, fun i k hi hk e => ?_⟩
    · rw [q, hM 4 0 0 i (by omega) (by omega)]
      exact t2.1 i hi
    · rw [q, q] at e
      exact t2.2 i k hi hk e
  · intro j hj c hc
    rw [hM 13 j c 3 (by omega) (by omega)]
    exact t3 j hj c hc
  · exact r_cg2 t4 (fun a c k hd => hM a 0 c k (by unfold r_dm at hd; omega) (by unfold r_dm at hd; omega)) (fun i hi => hK 16 0 0 i (by omega) (by omega) (by omega))
  · intro t ht
    obtain ⟨s1, s2⟩ := t5 t ht
    refine ⟨by rw [hM 3 0 0 t (by omega) (by omega), hK 19 0 0 t (by omega) (by omega) (by omega)]; exact s1, fun q2 => ?_⟩
    rw [hM 3 0 0 t (by omega) (by omega)] at q2
    obtain ⟨N1, B1, s3⟩ := s2 q2
    exact ⟨N1, B1, r_cg2 s3 (fun a c k hd => hM a (1 + t) c k (by unfold r_dm at hd; omega) (by unfold r_dm at hd; omega)) (fun i hi => hK 18 0 0 (173 * t + i) (by omega) (by omega) (by omega))⟩
  · intro i hi
    obtain ⟨N1, B1, s3⟩ := t6 i hi
    refine ⟨N1, B1, ?_⟩
    rw [q]
    exact r_cg2 s3 (fun a c k hd => hM a (3 + f_q M i) c k (by unfold r_dm at hd; omega) (by unfold r_dm at hd; omega)) (fun x hx => hK 17 0 0 (173 * i + x) (by omega) (by omega) (by omega))
  · refine ⟨fun j hj => ?_, fun j hj => ?_⟩
    · rw [hM 24 0 0 j (by omega) (by omega)]
      exact t8.1 j hj
    · rw [hM 25 0 0 j (by omega) (by omega)]
      exact t8.2 j hj
theorem z_append (hT : r_T M M n N B L) (h1 : f "java/lang/IllegalArgumentException" = some 1) (h2 : f "java/lang/IllegalStateException" = some 2) (v : Int32) : z_S 73 145 [.ref (m_lc 1 0 0), .int v] [.ref (m_lc 15 0 0), .int v] M f := by
  have hX := fun K (hb : r_T M K n N B L) => hb.2.2.2.2.2.2.1
  have hL := (hX M hT).1.1
  have e := a_append (M := M) L hL (hX M hT).1.2.1 v
  by_cases c1 : f_bw v 33 126 = 0
  · rw [if_pos c1] at e
    exact z_e hT e h1 (by decide) (fun K hb => (h_append L hL (hX K hb).1.2.2 v).trans (if_pos c1))
  · rw [if_neg c1] at e
    by_cases c2 : L < 60
    · rw [if_pos c2] at e
      refine z_v hT e (fun a b c k h => by simp (disch := omega) only [m_set_n, m_set_i]) (fun K hb => ?_)
      refine ⟨m_set (m_set (k_0 K) 20 0 0 L v) 15 0 0 7 (nI (L + 1)), ?_, fun a b c k h => ?_, ?_, n, N, B, L + 1, ?_⟩
      · rw [h_append L hL (hX K hb).1.2.2 v, if_neg c1, if_pos c2]
      · rw [m_set_n (by omega), m_set_n (by omega), k_0_o _ _ _ _ _ (by omega)]
      · rw [m_set_n (by omega), m_set_n (by omega)]
        exact m_set_i
      · have hv := (m_nc_of (f_bw_1 ((f_bw_c v 33 126).resolve_right c1))).2.2
        refine r_Ttxt hb ⟨⟨c2, m_set_i, m_set_i⟩, fun i hi => ?_, fun i hi => ?_⟩ (fun a b c k h1 h2 => by rw [m_set_n (by omega), m_set_n (by omega)]) (fun a b c k h1 h2 h3 => by rw [m_set_n (by omega), m_set_n (by omega), k_0_o _ _ _ _ _ (by omega)])
        · by_cases q : i = L
          · subst q
            simp (disch := omega) only [m_set_n, m_set_i]
          · rw [m_set_n (by omega), m_set_n (by omega), m_set_n (by omega), m_set_n (by omega), k_0_o _ _ _ _ _ (by omega)]
            exact (hX K hb).2.1 i (by omega)
        · by_cases q : i = L
          · subst q
            simp (disch := omega) only [m_set_n, m_set_i]
            exact hv
          · rw [m_set_n (by omega), m_set_n (by omega)]
            exact (hX K hb).2.2 i hi
    · rw [if_neg c2] at e
      exact z_e hT e h2 (by decide) (fun K hb => (h_append L hL (hX K hb).1.2.2 v).trans ((if_neg c1).trans (if_neg c2)))
theorem z_keep (hT : r_T M M n N B L) (h1 : f "java/lang/IllegalArgumentException" = some 1) (t : Int32) : z_S 77 154 [.ref (m_lc 1 0 0), .int t] [.ref (m_lc 15 0 0), .int t] M f := by
  have e := a_keep (z_fI hT) t
  by_cases c1 : f_bw t 0 1 = 0
  · rw [if_pos c1] at e
    exact z_e hT e h1 (by decide) (fun K hb => (h_keep t).trans (if_pos c1))
  · rw [if_neg c1] at e
    obtain ⟨t', k1, rfl⟩ := f_bw_0n (U := 1) ((f_bw_c t 0 1).resolve_right c1) (by decide)
    have tc := nI_clamp (show t' < 2 ^ 31 by omega)
    rw [tc] at e
    refine z_v hT e (fun a b c k h => by rw [m_set_n (by omega), f_cm_n (by omega)]) (fun K hb => ?_)
    refine ⟨m_set (k_bl (k_0 K) 18 (173 * t') 16 0 173) 19 0 0 t' 1, ?_, fun a b c k h => ?_, ?_, n, N, B, L, o_keep (z_k0 hb) (by omega)⟩
    · rw [h_keep _, if_neg c1, tc, (z_C hb).1.2.2.1.1]
    · rw [m_set_n (by omega), k_bl_n (by omega), k_0_o _ _ _ _ _ (by omega)]
    · rw [m_set_n (by omega), k_bl_n (by omega)]
      exact m_set_i
theorem z_goBack (hT : r_T M M n N B L) (h1 : f "java/lang/IllegalArgumentException" = some 1) (h2 : f "java/lang/IllegalStateException" = some 2) (t : Int32) : z_S 78 155 [.ref (m_lc 1 0 0), .int t] [.ref (m_lc 15 0 0), .int t] M f := by
  have e := a_goBack (z_fI hT) (fun t ht => hT.2.2.1 (1 + t) (by omega)) t
  by_cases c1 : f_bw t 0 1 = 0
  · rw [if_pos c1] at e
    exact z_e hT e h1 (by decide) (fun K hb => (h_goBack (z_kJ hb) t).trans (if_pos c1))
  · rw [if_neg c1] at e
    obtain ⟨t', k1, rfl⟩ := f_bw_0n (U := 1) ((f_bw_c t 0 1).resolve_right c1) (by decide)
    have tc := nI_clamp (show t' < 2 ^ 31 by omega)
    rw [tc] at e
    have hs := fun K (hb : r_T M K n N B L) => (hb.2.2.2.2.1 t' (by omega)).1
    by_cases c2 : M 3 0 0 t' = 0
    · rw [if_pos c2] at e
      refine z_e hT e h2 (by decide) (fun K hb => ?_)
      rw [h_goBack (z_kJ hb) _, if_neg c1, tc, if_pos ((hs K hb).symm.trans c2)]
    · rw [if_neg c2] at e
      refine z_v hT e (fun a b c k h => by rw [f_cm_n (by omega)]; exact f_sv_15 h) (fun K hb => ?_)
      obtain ⟨N', B', g⟩ := o_back (z_sv hb) (show t' < 2 by omega) (by rw [f_sv_o M n 3 0 0 t' (by decide) (by decide) (by omega)]; exact c2)
      refine ⟨k_bl (k_sv (k_0 K) n) 16 0 18 (173 * t') 173, ?_, fun a b c k h => ?_, ?_, r_n n, N', B', L, g⟩
      · rw [h_goBack (z_kJ hb) _, if_neg c1, tc, if_neg (fun z => c2 ((hs K hb).trans z)), (z_C g).1.2.2.1.1]
      · rw [k_bl_n (by omega), k_sv_15 h]
      · rw [k_bl_n (by omega)]
        exact k_sv_5
theorem z_undo (hT : r_T M M n N B L) (h1 : f "java/lang/IllegalStateException" = some 1) : z_S 79 156 [.ref (m_lc 1 0 0)] [.ref (m_lc 15 0 0)] M f := by
  have e := a_undo (z_fI hT) (fun q hq => hT.2.2.1 (3 + q) (by omega))
  cases n with
  | zero =>
    rw [if_pos rfl] at e
    exact z_e hT e h1 (by decide) (fun K hb => (h_undo (z_kJ hb)).trans (if_pos rfl))
  | succ n =>
    rw [if_neg (by omega), Nat.add_sub_cancel] at e
    refine z_v hT e (fun a b c k h => by rw [f_cm_n (by omega), m_set_n (by omega)]) (fun K hb => ?_)
    obtain ⟨N', B', g⟩ := o_undo (z_k0 hb)
    refine ⟨k_bl (m_set (k_0 K) 15 0 0 4 (nI n)) 16 0 17 (173 * n) 173, ?_, fun a b c k h => ?_, ?_, n, N', B', L, g⟩
    · rw [h_undo (z_kJ hb), if_neg (by omega), Nat.add_sub_cancel]
    · rw [k_bl_n (by omega), m_set_n (by omega), k_0_o _ _ _ _ _ (by omega)]
    · rw [k_bl_n (by omega), m_set_n (by omega)]
      exact m_set_i
-- calls whose answers are compared on the stack
def z_D (X Y : Nat) (M : m_Mem) : Prop := ∃ v M1 M2, m_cl X [.ref (m_lc 1 0 0)] M = some (.inl (some v), M1) ∧ m_cl Y [.ref (m_lc 15 0 0)] M1 = some (.inl (some v), M2) ∧ M2 28 0 0 0 = M 28 0 0 0 ∧ z_ok M M2
theorem z_d {X Y : Nat} {v : Value} {M1 : m_Mem} (hT : r_T M M n N B L) (h1 : m_cl X [.ref (m_lc 1 0 0)] M = some (.inl (some v), M1)) (f1 : ∀ a b c k, 15 ≤ a → M1 a b c k = M a b c k)
    (h2 : ∀ K, r_T M K n N B L → ∃ K2, m_cl Y [.ref (m_lc 15 0 0)] K = some (.inl (some v), K2) ∧ (∀ a b c k, (a < 15 ∨ 21 < a) → K2 a b c k = K a b c k) ∧ ∃ n' N' B' L', r_T M1 K2 n' N' B' L') : z_D X Y M := by
  have hb : r_T M M1 n N B L := r_Tcg hT (fun _ _ _ _ _ => rfl) (fun a b c k h1 h2 h3 => f1 a b c k h1)
  obtain ⟨K2, g1, g2, n', N', B', L', g4⟩ := h2 _ hb
  refine ⟨v, M1, K2, h1, g1, ?_, ⟨n', N', B', L', ?_⟩, fun a b c k h3 h4 => ?_⟩
  · rw [g2 _ _ _ _ (by omega), f1 _ _ _ _ (by omega)]
  · exact r_Tcg g4 (fun a b c k hh => g2 _ _ _ _ (by omega)) (fun _ _ _ _ _ _ _ => rfl)
  · rw [g2 _ _ _ _ (by omega), f1 _ _ _ _ (by omega)]
theorem z_dl {X Y : Nat} {v : Value} (hT : r_T M M n N B L) (h1 : m_cl X [.ref (m_lc 1 0 0)] M = some (.inl (some v), M)) (h2 : ∀ K, r_T M K n N B L → m_cl Y [.ref (m_lc 15 0 0)] K = some (.inl (some v), k_0 K)) : z_D X Y M :=
  z_d hT h1 (fun _ _ _ _ _ => rfl) (fun K hb => ⟨k_0 K, h2 K hb, fun a b c k h => k_0_o _ _ _ _ _ (by omega), n, N, B, L, z_k0 hb⟩)
theorem z_clear (hT : r_T M M n N B L) : z_D 74 146 M := by
  refine z_d hT a_clear (fun a b c k h => m_set_n (by omega)) (fun K hb => ⟨m_set (k_0 K) 15 0 0 7 0, ?_, fun a b c k h => ?_, n, N, B, 0, ?_⟩)
  · rw [h_clear, hb.2.2.2.2.2.2.1.1.2.2, hb.2.2.2.2.2.2.1.1.2.1]
  · rw [m_set_n (by omega), k_0_o _ _ _ _ _ (by omega)]
  · refine r_Ttxt hb ⟨⟨by omega, m_set_i, m_set_i⟩, fun i hi => by omega, fun i hi => ?_⟩ (fun a b c k h1 h2 => m_set_n (by omega)) (fun a b c k h1 h2 h3 => by rw [m_set_n (by omega), k_0_o _ _ _ _ _ (by omega)])
    rw [m_set_n (by omega)]
    exact hb.2.2.2.2.2.2.1.2.2 i hi
theorem z_worst (hT : r_T M M n N B L) : z_D 87 173 M := by
  refine z_dl hT (a_worst (z_fI hT)) (fun K hb => ?_)
  rw [h_worst (z_kJ hb), (z_wo (z_C (z_k0 hb)) N (Nat.le_refl _)).1]
theorem z_safe (hT : r_T M M n N B L) : z_D 88 175 M := by
  refine z_dl hT a_safe (fun K hb => ?_)
  rw [h_safe, z_sf (z_C (z_k0 hb))]
theorem z_shk {M K : m_Mem} (h : r_C M 0 (K 16 0 0) N B) : f_sh M 0 N = k_sh K N := by
  have hs := (r_share h.2.2.2.2.2.2.2 h.1.2.1.1).1
  unfold f_sh k_sh
  rw [← z_tot h (by decide : 3 < 8) N (Nat.le_refl _), ← z_tot h (by decide : 4 < 8) N (Nat.le_refl _)]
  by_cases q : 0 < f_tot M 0 3 N
  · rw [if_pos q, if_neg (hs.mp q)]
  · rw [if_neg q, if_pos (Decidable.byContradiction (fun z => q (hs.mpr z)))]
theorem z_fnn {M K : m_Mem} (h : r_C M 0 (K 16 0 0) N B) : 0 < f_tot M 0 3 N → FP.ddiv (FP.i2d (f_tot M 0 4 N)) (FP.i2d (f_tot M 0 3 N)) &&& 0x7fffffffffffffff ≤ 0x7ff0000000000000 := fun q => d_sh_nn ((r_share h.2.2.2.2.2.2.2 h.1.2.1.1).2 q)
theorem z_knn {M K : m_Mem} (h : r_C M 0 (K 16 0 0) N B) : ¬ k_tot K 3 N = 0 → FP.ddiv (FP.i2d (k_tot K 4 N)) (FP.i2d (k_tot K 3 N)) &&& 0x7fffffffffffffff ≤ 0x7ff0000000000000 := by
  rw [← z_tot h (by decide : 3 < 8) N (Nat.le_refl _), ← z_tot h (by decide : 4 < 8) N (Nat.le_refl _)]
  exact fun q => z_fnn h ((r_share h.2.2.2.2.2.2.2 h.1.2.1.1).1.mpr q)
/-- the shares of both are one number, and a number -/
theorem z_fineShare (hT : r_T M M n N B L) : ∃ s, d_sh s ∧ ∃ M2, m_cl 89 [.ref (m_lc 1 0 0)] M = some (.inl (some (.double s)), M) ∧ m_cl 177 [.ref (m_lc 15 0 0)] M = some (.inl (some (.double s)), M2) ∧ M2 28 0 0 0 = M 28 0 0 0 ∧ z_ok M M2 := by
  refine ⟨f_sh M 0 N, r_fsh (z_C hT).2.2.2.2.2.2.2 (z_C hT).1.2.1.1, k_0 M, a_share (z_fI hT) (z_fnn (z_C hT)), ?_, k_0_o _ _ _ _ _ (by omega), ⟨n, N, B, L, ?_⟩, fun a b c k h1 h2 => k_0_o _ _ _ _ _ (by omega)⟩
  · rw [h_share (z_kJ hT) (z_knn (z_C (z_k0 hT))), z_shk (z_C (z_k0 hT))]
    rfl
  · exact r_Tcg (z_k0 hT) (fun a b c k h => k_0_o _ _ _ _ _ (by omega)) (fun _ _ _ _ _ _ _ => rfl)
theorem z_digest (hT : r_T M M n N B L) : z_D 90 178 M := by
  obtain ⟨⟨hL, hl, -⟩, -, hC⟩ := hT.2.2.2.2.2.2.1
  have hsh := r_fsh (z_C hT).2.2.2.2.2.2.2 (z_C hT).1.2.1.1
  refine z_dl hT (a_digest (z_fI hT) L hL hl hC (z_fnn (z_C hT)) _ (s_bits hsh M)) (fun K hb => ?_)
  have hb0 := z_k0 hb
  obtain ⟨⟨-, -, h7⟩, -, -⟩ := hb.2.2.2.2.2.2.1
  have hx := hb0.2.2.2.2.2.2.1.2.1
  have hs := z_shk (z_C hb0)
  have hq : Op.cmpValue (FP.dcmp (k_sh (k_0 K) N) (k_sh (k_0 K) N)) CmpOp.l = 0 := by
    rw [← hs]
    exact d_sh_cmp hsh _
  rw [h_digest (z_kJ hb) (z_W (z_C hb)) L hL h7 (z_knn (z_C hb0)) hq]
  have e1 : f_h 3119 (f_ct M n N B) 17 = f_h 3119 (k_num (k_0 K) n N B) 17 := f_h_cg _ 17 (fun i hi => z_num (z_C hb0) n hi)
  have e2 : ∀ h, f_h h (M 11 0 0) 5 = f_h h (fun k => k_0 K 16 0 0 (8 + k)) 5 := fun h => f_h_cg _ 5 (fun i hi => by
    obtain ⟨s0, s1, s2, s3, s4⟩ := (z_C hb0).1.2.2.2.2
    have ht : i = 0 ∨ i = 1 ∨ i = 2 ∨ i = 3 ∨ i = 4 := by omega
    rcases ht with rfl | rfl | rfl | rfl | rfl
    · exact s0
    · exact s1
    · exact s2
    · exact s3
    · exact s4)
  have e3 : ∀ h, f_h h (f_row (f_dp M 0) 9) (9 * N) = f_h h (f_row (k_dp (k_0 K)) 9) (9 * N) := fun h => f_h_cg _ _ (fun i hi => z_dp (z_C hb0) (by omega) (Nat.mod_lt _ (by decide)))
  have e4 : ∀ h, f_h h (f_row (f_cpp M 0) 5) 50 = f_h h (f_row (fun c k => k_0 K 16 0 0 (77 + 6 * c + k)) 5) 50 := fun h => f_h_cg _ _ (fun i hi => z_cpp (z_C hb0) (by omega) (Nat.mod_lt _ (by decide)))
  have e5 : ∀ h, f_h h (f_row (f_bp M 0) 5) (5 * B) = f_h h (f_row (k_bp (k_0 K)) 5) (5 * B) := fun h => f_h_cg _ _ (fun i hi => z_bp (z_C hb0) (by omega) (Nat.mod_lt _ (by decide)))
  have e6 : ∀ h, f_h h (f_iw M 777) 3 = f_h h (k_iw (k_0 K) 777) 3 := fun h => f_h_cg _ _ (fun i hi => z_iw (z_C hb0) 777 hi)
  have e7 : ∀ h, f_h h (M 6 0 0) L = f_h h (k_0 K 20 0 0) L := fun h => f_h_cg _ _ (fun i hi => hx i hi)
  have e8 : f_h5 M n N B = k_h5 (k_0 K) n N B := by
    unfold f_h5 f_hr k_h5
    rw [e1, e2, e3, e4, e5, e6]
  have e9 : ∀ t, t < 2 → f_kt (M 3 0 0 t) = k_kt (k_0 K 19 0 0 t) := fun t ht => by
    rw [(hb0.2.2.2.2.1 t ht).1]
    rfl
  have e10 : f_hd M n N B L (f_sh M 0 N).toInt64 = k_hd (k_0 K) n N B L := by
    unfold f_hd k_hd k_h8
    rw [e7, e8, r_few (z_C hb0), ← (z_wo (z_C hb0) N (Nat.le_refl _)).1, ← z_sf (z_C hb0), hs, ← e9 0 (by decide), ← e9 1 (by decide)]
    rfl
  rw [e10]
end LOOKS
