/-! THE MODEL's reading of a whole text. -/
/-- what a reading keeps -/
def k_kp (M K : m_Mem) : Prop := K 15 0 0 7 = M 15 0 0 7 ∧ K 15 0 0 9 = M 15 0 0 9 ∧ K 20 0 0 = M 20 0 0
theorem k_kp_8 {M K : m_Mem} (h : k_kp M K) (x : Int32) : k_kp M (m_set K 15 0 0 8 x) :=
  ⟨by rw [m_set_n (fun q => absurd q.2.2.2 (by decide))]; exact h.1, by rw [m_set_n (fun q => absurd q.2.2.2 (by decide))]; exact h.2.1, by funext k; rw [m_set_n (fun q => absurd q.1 (by decide))]; exact congrFun h.2.2 k⟩
theorem k_kp_21 {M K : m_Mem} (h : k_kp M K) (i : Nat) (x : Int32) : k_kp M (m_set K 21 0 0 i x) :=
  ⟨by rw [m_set_n (fun q => absurd q.1 (by decide))]; exact h.1, by rw [m_set_n (fun q => absurd q.1 (by decide))]; exact h.2.1, by funext k; rw [m_set_n (fun q => absurd q.1 (by decide))]; exact congrFun h.2.2 k⟩
theorem k_kp_r (M : m_Mem) : k_kp M M := ⟨rfl, rfl, rfl⟩
theorem k_o1_kp (M : m_Mem) (b a : Nat) : k_kp M (k_o1 M b a) := k_kp_8 (k_kp_21 (k_kp_r M) _ _) _
theorem k_o2_kp (M : m_Mem) (b a : Nat) : k_kp M (k_o2 M b a) := k_kp_8 (k_kp_21 (k_o1_kp M b a) _ _) _
theorem k_nu_b (t : Nat → Int32) (L a : Nat) (ha : a ≤ L) : a ≤ (k_nu t L a).1 ∧ (k_nu t L a).1 ≤ L := by
  unfold k_nu
  split
  · rename_i h
    have hlt := k_at_lt h
    have := k_nl_ge t L (L - a) a 0 (by omega) hlt
    omega
  · exact ⟨Nat.le_refl _, ha⟩
theorem k_or_ok {M : m_Mem} {L b a : Nat} (ha : a ≤ L) (h8 : M 15 0 0 8 = nI a) : k_kp M (k_or M L b a).2 ∧ ((k_or M L b a).1 = 0 ∨ (k_or M L b a).1 = 1) ∧ ∃ a', a ≤ a' ∧ a' ≤ L ∧ (k_or M L b a).2 15 0 0 8 = nI a' ∧ ((k_or M L b a).1 = 1 → a < a') := by
  unfold k_or
  split
  · rename_i c1
    have hlt := k_at_lt c1
    exact ⟨k_kp_8 (k_kp_21 (k_kp_r M) _ _) _, Or.inr rfl, a + 1, by omega, by omega, by dsimp only; exact m_set_i, fun _ => by omega⟩
  · split
    · exact ⟨k_kp_r M, Or.inl rfl, a, Nat.le_refl _, ha, h8, fun q => absurd (show (0 : Int32) = 1 from q) (by decide)⟩
    · rename_i c1 c2
      have hlt : a < L := k_at_lt ((k_at_c (M 20 0 0) L a 48 55).resolve_right c2)
      split
      · rename_i c3
        have hlt1 := k_at_lt c3
        refine ⟨k_kp_8 (k_kp_21 (k_o2_kp M b a) _ _) _, (k_at_c _ _ _ _ _).symm, ?_⟩
        rcases k_at_c (M 20 0 0) L (a + 1 + 1) 48 57 with c4 | c4
        · have hlt2 := k_at_lt c4
          refine ⟨a + 1 + 1 + 1, by omega, by omega, ?_, fun _ => by omega⟩
          dsimp only
          rw [m_set_i, if_pos c4, nI_1]
        · refine ⟨a + 1 + 1, by omega, by omega, ?_, fun _ => by omega⟩
          dsimp only
          rw [m_set_i, if_neg (by rw [c4]; decide), Int32.add_zero]
      · split
        · rename_i c3 c4
          have hlt1 : a + 1 < L := c4.elim k_at_lt k_at_lt
          have hnu := k_nu_b (M 20 0 0) L (a + 1 + 1) (by omega)
          refine ⟨k_kp_21 (k_kp_8 (k_o2_kp M b a) _) _ _, (k_at_c _ _ _ _ _).symm, (k_nu (M 20 0 0) L (a + 1 + 1)).1, by omega, hnu.2, ?_, fun _ => by omega⟩
          dsimp only
          rw [m_set_n (fun q => absurd q.1 (by decide)), m_set_i]
        · exact ⟨k_o1_kp M b a, Or.inl rfl, a + 1, by omega, by omega, by dsimp only; exact m_set_i, fun q => absurd (show (0 : Int32) = 1 from q) (by decide)⟩
/-- the whole reading, from a memory that tells where it is -/
def k_tx (L : Nat) : Nat → m_Mem → Int32 × m_Mem
  | 0, M => (0, M)
  | f + 1, M =>
    let n := (M 15 0 0 9).toNatClampNeg
    let r := k_or M L (3 * n) (M 15 0 0 8).toNatClampNeg
    let M1 := m_set r.2 15 0 0 9 (nI (n + 1))
    let a1 := (M1 15 0 0 8).toNatClampNeg
    if r.1 = 0 then (0, r.2)
    else if k_at (M 20 0 0) L a1 59 59 = 1 then k_tx L f (m_set M1 15 0 0 8 (nI (a1 + 1)))
    else (if a1 = L then 1 else 0, m_set M1 15 0 0 8 (nI a1))
section TEXT3
theorem g_text_l (L : Nat) (hL : L ≤ 60) : ∀ (f a n : Nat) (M : m_Mem), L + 1 ≤ a + f → a ≤ L → 2 * n ≤ a → M 15 0 0 7 = nI L → M 15 0 0 8 = nI a → M 15 0 0 9 = nI n → m_E 150 12 [some (.ref (m_lc 15 0 0)), some (.int 1)] [] M = some (.inl (some (.int (k_tx L f M).1)), (k_tx L f M).2) := by
  intro f
  induction f with
  | zero => intro a n M h1 h2; omega
  | succ f ih =>
    intro a n M h1 h2 h3 h7 h8 h9
    have hn : n ≤ 30 := by omega
    have ca : (nI a).toNatClampNeg = a := nI_clamp (by omega)
    have cn : (nI n).toNatClampNeg = n := nI_clamp (by omega)
    have ho := g_order L a n hL h2 hn h7 h8 h9
    obtain ⟨⟨k7, k9, k20⟩, kc, a', ha1, ha2, ha3, ha4⟩ := k_or_ok (M := M) (L := L) (b := 3 * n) h2 h8
    have es : k_tx L (f + 1) M = (let r := k_or M L (3 * n) a
      let M1 := m_set r.2 15 0 0 9 (nI (n + 1))
      let a1 := (M1 15 0 0 8).toNatClampNeg
      if r.1 = 0 then (0, r.2)
      else if k_at (M 20 0 0) L a1 59 59 = 1 then k_tx L f (m_set M1 15 0 0 8 (nI (a1 + 1)))
      else (if a1 = L then 1 else 0, m_set M1 15 0 0 8 (nI a1))) := by
      show (let n := (M 15 0 0 9).toNatClampNeg
        let r := k_or M L (3 * n) (M 15 0 0 8).toNatClampNeg
        let M1 := m_set r.2 15 0 0 9 (nI (n + 1))
        let a1 := (M1 15 0 0 8).toNatClampNeg
        if r.1 = 0 then (0, r.2)
        else if k_at (M 20 0 0) L a1 59 59 = 1 then k_tx L f (m_set M1 15 0 0 8 (nI (a1 + 1)))
        else ((if a1 = L then 1 else 0 : Int32), m_set M1 15 0 0 8 (nI a1))) = _
      rw [h8, h9, ca, cn]
    rw [es]
    generalize k_or M L (3 * n) a = r at ho k7 k9 k20 kc ha3 ha4 ⊢
    obtain ⟨r1, K⟩ := r
    dsimp only at ho k7 k9 k20 kc ha3 ha4 ⊢
    have ca' : (nI a').toNatClampNeg = a' := nI_clamp (by omega)
    have m8 : m_set K 15 0 0 9 (nI (n + 1)) 15 0 0 8 = nI a' := by rw [m_set_n (fun q => absurd q.2.2.2 (by decide))]; exact ha3
    have m7 : m_set K 15 0 0 9 (nI (n + 1)) 15 0 0 7 = nI L := by rw [m_set_n (fun q => absurd q.2.2.2 (by decide)), k7]; exact h7
    have m20 : m_set K 15 0 0 9 (nI (n + 1)) 20 0 0 = M 20 0 0 := by
      funext k
      rw [m_set_n (fun q => absurd q.1 (by decide))]
      exact congrFun k20 k
    have k9n : K 15 0 0 9 = nI n := k9.trans h9
    rw [m8, ca']
    rw [e6_isText_12]
    rcases kc with rfl | rfl
    · rw [if_pos rfl]
      simp only [e6_isText_13, e6_isText_16, e6_isText_17, e6_isText_20, e6_isText_23, e6_isText_24, e6_isText_25, e6_isText_26, e6_isText_27, e6_isText_30, e6_isText_31, e6_isText_32, e6_isText_35, e6_isText_36, e6_isText_38, e6_isText_40, e6_isText_43, e6_isText_44, e6_isText_45, e6_isText_46, e6_isText_49, e6_isText_50, e6_isText_53, e6_isText_54, e6_isText_57, e6_isText_58, e6_isText_59, e6_isText_62, e6_isText_65, e6_isText_66, e6_isText_69, e6_isText_70, e6_isText_73, e6_isText_76, e6_isText_77, e6_isText_80, e6_isText_81, ho, m_nok10, m_kill, m_cE_i, m_cE_v, m_cE_ite, m_kill, (by decide : ¬ (1 : Int32) = 0), ne_eq, if_true, if_false, not_false_eq_true]
    · have hlt := ha4 rfl
      have hat := g_isAt (M := m_set K 15 0 0 9 (nI (n + 1))) L a' hL (by omega) m7 m8 59 59
      rw [m20] at hat
      rw [if_neg (by decide)]
      rcases k_at_c (M 20 0 0) L a' 59 59 with c1 | c1
      · have hl := k_at_lt c1
        rw [c1] at hat
        rw [if_pos c1]
        have ih2 := ih (a' + 1) (n + 1) (m_set (m_set K 15 0 0 9 (nI (n + 1))) 15 0 0 8 (nI (a' + 1))) (by omega) (by omega) (by omega)
          (by rw [m_set_n (fun q => absurd q.2.2.2 (by decide))]; exact m7) m_set_i (by rw [m_set_n (fun q => absurd q.2.2.2 (by decide)), m_set_i])
        simp only [e6_isText_13, e6_isText_16, e6_isText_17, e6_isText_20, e6_isText_23, e6_isText_24, e6_isText_25, e6_isText_26, e6_isText_27, e6_isText_30, e6_isText_31, e6_isText_32, e6_isText_35, e6_isText_36, e6_isText_38, e6_isText_40, e6_isText_43, e6_isText_44, e6_isText_45, e6_isText_46, e6_isText_49, e6_isText_50, e6_isText_53, e6_isText_54, e6_isText_57, e6_isText_58, e6_isText_59, e6_isText_62, ho, k9n, nI_1, hat, m8, m_kill, m_cE_i, m_cE_v, m_cE_ite, m_kill, (by decide : ¬ (1 : Int32) = 0), ne_eq, if_true, if_false, not_false_eq_true]
        exact ih2
      · rw [c1] at hat
        rw [if_neg (by rw [c1]; decide)]
        have q8 : m_set (m_set K 15 0 0 9 (nI (n + 1))) 15 0 0 8 (nI a') 15 0 0 8 = nI a' := m_set_i
        have q7 : m_set (m_set K 15 0 0 9 (nI (n + 1))) 15 0 0 8 (nI a') 15 0 0 7 = nI L := by rw [m_set_n (fun q => absurd q.2.2.2 (by decide))]; exact m7
        simp only [e6_isText_13, e6_isText_16, e6_isText_17, e6_isText_20, e6_isText_23, e6_isText_24, e6_isText_25, e6_isText_26, e6_isText_27, e6_isText_30, e6_isText_31, e6_isText_32, e6_isText_35, e6_isText_36, e6_isText_38, e6_isText_40, e6_isText_43, e6_isText_44, e6_isText_45, e6_isText_46, e6_isText_49, e6_isText_50, e6_isText_53, e6_isText_54, e6_isText_57, e6_isText_58, e6_isText_59, e6_isText_62, ho, k9n, nI_1, hat, m8, Int32.add_zero, m_kill, m_cE_i, m_cE_v, m_cE_ite, m_kill, (by decide : ¬ (1 : Int32) = 0), ne_eq, if_true, if_false, not_false_eq_true]
        rw [e6_isText_12]
        by_cases he : a' = L
        · subst he
          simp only [e6_isText_13, e6_isText_16, e6_isText_17, e6_isText_20, e6_isText_23, e6_isText_24, e6_isText_25, e6_isText_26, e6_isText_27, e6_isText_30, e6_isText_31, e6_isText_32, e6_isText_35, e6_isText_36, e6_isText_38, e6_isText_40, e6_isText_43, e6_isText_44, e6_isText_45, e6_isText_46, e6_isText_49, e6_isText_50, e6_isText_53, e6_isText_54, e6_isText_57, e6_isText_58, e6_isText_59, e6_isText_62, e6_isText_65, e6_isText_66, e6_isText_69, e6_isText_70, e6_isText_73, e6_isText_76, e6_isText_77, e6_isText_80, e6_isText_81, q8, q7, m_nok11, ne_eq, not_true_eq_false, if_true, if_false, not_false_eq_true]
        · have hne : ¬ nI a' = nI L := fun q => he ((nI_eq (by omega) (by omega)).mp q)
          simp only [e6_isText_13, e6_isText_16, e6_isText_17, e6_isText_20, e6_isText_23, e6_isText_24, e6_isText_25, e6_isText_26, e6_isText_27, e6_isText_30, e6_isText_31, e6_isText_32, e6_isText_35, e6_isText_36, e6_isText_38, e6_isText_40, e6_isText_43, e6_isText_44, e6_isText_45, e6_isText_46, e6_isText_49, e6_isText_50, e6_isText_53, e6_isText_54, e6_isText_57, e6_isText_58, e6_isText_59, e6_isText_62, e6_isText_65, e6_isText_66, e6_isText_69, e6_isText_70, e6_isText_73, e6_isText_76, e6_isText_77, e6_isText_80, e6_isText_81, q8, q7, he, hne, m_nok10, ne_eq, if_true, if_false, not_false_eq_true]
theorem g_text (L : Nat) (hL : L ≤ 60) (M : m_Mem) (h7 : M 15 0 0 7 = nI L) : m_cl 150 [.ref (m_lc 15 0 0)] M = some (.inl (some (.int (k_tx L (L + 1) (m_set (m_set M 15 0 0 8 0) 15 0 0 9 0)).1)), (k_tx L (L + 1) (m_set (m_set M 15 0 0 8 0) 15 0 0 9 0)).2) := by
  rw [e6_isText_en]
  simp only [e6_isText_0, e6_isText_1, e6_isText_2, e6_isText_5, e6_isText_6, e6_isText_7, e6_isText_10, e6_isText_11, m_kill]
  exact g_text_l L hL (L + 1) 0 0 _ (by omega) (by omega) (by omega) (by rw [m_set_n (fun q => absurd q.2.2.2 (by decide)), m_set_n (fun q => absurd q.2.2.2 (by decide))]; exact h7) (by rw [m_set_n (fun q => absurd q.2.2.2 (by decide)), m_set_i]; rfl) (by rw [m_set_i]; rfl)
end TEXT3
