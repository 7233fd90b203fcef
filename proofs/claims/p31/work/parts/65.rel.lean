/-! THE CLASS'S CAMP j AND THE MODEL'S NUMBERS S say the same; and what always holds of them. -/
def v_s (f : Nat → Nat) : Nat → Nat
  | 0 => 0
  | n + 1 => v_s f n + f n
def r_A (M : m_Mem) (j : Nat) (S : Nat → Int32) (N B : Nat) : Prop :=
  (N ≤ 8 ∧ M 7 j 0 5 = nI N ∧ S 1 = nI N) ∧ (B ≤ 12 ∧ M 7 j 0 6 = nI B ∧ S 5 = nI B) ∧ (M 7 j 0 7 = S 0 ∧ M 7 j 0 8 = S 6 ∧ M 7 j 0 9 = S 7) ∧
  (M 14 j 12 0 = S 2 ∧ M 14 j 12 1 = S 3 ∧ M 14 j 12 2 = S 4) ∧ (M 11 j 0 0 = S 8 ∧ M 11 j 0 1 = S 9 ∧ M 11 j 0 2 = S 10 ∧ M 11 j 0 3 = S 11 ∧ M 11 j 0 4 = S 12)
def r_D (M : m_Mem) (j : Nat) (S : Nat → Int32) (N : Nat) : Prop :=
  (∀ d, d < N → ∀ k, k < 8 → M 12 j d k = S (13 + 8 * d + k)) ∧ (∀ d, N ≤ d → d < 8 → ∀ k, k < 8 → M 12 j d k = if k = 2 then -1 else 0)
def r_L1 (M : m_Mem) (j : Nat) (S : Nat → Int32) (c : Nat) : Prop :=
  M 13 j c 0 = S (77 + 6 * c + 0) ∧ M 13 j c 1 = S (77 + 6 * c + 1) ∧ M 13 j c 2 = S (77 + 6 * c + 2) ∧ M 13 j c 4 = S (77 + 6 * c + 3) ∧ M 13 j c 5 = S (77 + 6 * c + 4) ∧
    (M 13 j c 3 = 0 ∨ M 13 j c 3 = 1) ∧ (M 13 j c 1 = -1 → M 13 j c 3 = 0) ∧ (M 13 j c 1 ≠ -1 → S (77 + 6 * c + 5) = M 13 j c 3)
def r_L (M : m_Mem) (j : Nat) (S : Nat → Int32) : Prop := ∀ c, c < 10 → r_L1 M j S c
def r_G (M : m_Mem) (j : Nat) (S : Nat → Int32) : Prop := ∀ b, b < 12 → M 14 j b 0 = S (137 + 3 * b + 0) ∧ M 14 j b 1 = S (137 + 3 * b + 1) ∧ M 14 j b 2 = S (137 + 3 * b + 2)
def r_O (M : m_Mem) (j N : Nat) : Prop := (∀ c, c < 10 → M 13 j c 1 = -1 ∨ ∃ d, d < N ∧ M 13 j c 1 = nI d) ∧ (∀ d, d < N → M 12 j d 2 = -1 ∨ ∃ c, c < 10 ∧ M 12 j d 2 = nI c ∧ M 13 j c 1 = nI d)
def r_V (M : m_Mem) (j : Nat) : Prop :=
  (0 ≤ M 7 j 0 7 ∧ M 7 j 0 7 ≤ 9999) ∧ (-50 ≤ M 7 j 0 8 ∧ M 7 j 0 8 ≤ 50) ∧ (500 ≤ M 11 j 0 0 ∧ M 11 j 0 0 ≤ 1000) ∧ (1 ≤ M 11 j 0 1 ∧ M 11 j 0 1 ≤ 999) ∧ (0 ≤ M 11 j 0 2 ∧ M 11 j 0 2 ≤ 50) ∧ (1 ≤ M 11 j 0 3 ∧ M 11 j 0 3 ≤ 30) ∧ (1 ≤ M 11 j 0 4 ∧ M 11 j 0 4 ≤ 99)
def r_F (M : m_Mem) (j : Nat) : Prop := ∀ c, c < 10 → 500 ≤ M 13 j c 0 ∧ M 13 j c 0 ≤ 1000
def r_W (M : m_Mem) (j N B : Nat) : Prop := ∃ (g p w : Nat → Nat) (l : Nat), (∀ d, d < N → M 12 j d 3 = nI (g d) ∧ M 12 j d 4 = nI (p d) ∧ p d ≤ g d) ∧ (∀ b, b < B → M 14 j b 0 = nI (w b) ∧ 1 ≤ w b ∧ w b ≤ 99999) ∧ M 14 j 12 0 = nI l ∧ l ≤ 99999 ∧ v_s g N = l + v_s w B
def r_C (M : m_Mem) (j : Nat) (S : Nat → Int32) (N B : Nat) : Prop := r_A M j S N B ∧ r_D M j S N ∧ r_L M j S ∧ r_G M j S ∧ r_O M j N ∧ r_V M j ∧ r_F M j ∧ r_W M j N B
/-- another memory with the same camp -/
theorem r_cg {M M' : m_Mem} {j j' : Nat} {S S' : Nat → Int32} {N B : Nat} (h : r_C M j S N B) (hM : ∀ a c k, (a = 7 ∨ 11 ≤ a ∧ a ≤ 14) → (a ≠ 7 ∧ a ≠ 11 ∨ c = 0) → M' a j' c k = M a j c k) (hS : ∀ i, i < 173 → S' i = S i) : r_C M' j' S' N B := by
  have m7 : ∀ k, M' 7 j' 0 k = M 7 j 0 k := fun k => hM 7 0 k (by omega) (by omega)
  have m11 : ∀ k, M' 11 j' 0 k = M 11 j 0 k := fun k => hM 11 0 k (by omega) (by omega)
  have m12 : ∀ d k, M' 12 j' d k = M 12 j d k := fun d k => hM 12 d k (by omega) (by omega)
  have m13 : ∀ d k, M' 13 j' d k = M 13 j d k := fun d k => hM 13 d k (by omega) (by omega)
  have m14 : ∀ d k, M' 14 j' d k = M 14 j d k := fun d k => hM 14 d k (by omega) (by omega)
  obtain ⟨hA, hD, hL, hG, hO, hV, hF, hW⟩ := h
  obtain ⟨hN, hB, h0, hl, hs⟩ := hA
  refine ⟨?_, ?_, ?_, ?_, ?_, ?_, ?_, ?_⟩
  · unfold r_A
    rw [m7, m7, m7, m7, m7, m14, m14, m14, m11, m11, m11, m11, m11, hS 0 (by omega), hS 1 (by omega), hS 2 (by omega), hS 3 (by omega), hS 4 (by omega), hS 5 (by omega), hS 6 (by omega), hS 7 (by omega), hS 8 (by omega), hS 9 (by omega), hS 10 (by omega), hS 11 (by omega), hS 12 (by omega)]
    exact ⟨hN, hB, h0, hl, hs⟩
  · refine ⟨fun d hd k hk => ?_, fun d h1 h2 k hk => ?_⟩
    · rw [m12, hS _ (by omega)]
      exact hD.1 d hd k hk
    · rw [m12]
      exact hD.2 d h1 h2 k hk
  · intro c hc
    unfold r_L1
    rw [m13, m13, m13, m13, m13, m13, hS _ (by omega), hS _ (by omega), hS _ (by omega), hS _ (by omega), hS _ (by omega), hS _ (by omega)]
    exact hL c hc
  · intro b hb
    rw [m14, m14, m14, hS _ (by omega), hS _ (by omega), hS _ (by omega)]
    exact hG b hb
  · refine ⟨fun c hc => ?_, fun d hd => ?_⟩
    · rw [m13]
      exact hO.1 c hc
    · rw [m12]
      rcases hO.2 d hd with h | ⟨c, h1, h2, h3⟩
      · exact Or.inl h
      · exact Or.inr ⟨c, h1, h2, by rw [m13]; exact h3⟩
  · unfold r_V
    rw [m7, m7, m11, m11, m11, m11, m11]
    exact hV
  · intro c hc
    rw [m13]
    exact hF c hc
  · obtain ⟨g, p, w, l, h1, h2, h3, h4, h5⟩ := hW
    refine ⟨g, p, w, l, fun d hd => ?_, fun b hb => ?_, by rw [m14]; exact h3, h4, h5⟩
    · rw [m12, m12]
      exact h1 d hd
    · rw [m14]
      exact h2 b hb
-- sums
theorem v_cg {f g : Nat → Nat} : ∀ n, (∀ i, i < n → f i = g i) → v_s f n = v_s g n
  | 0, _ => rfl
  | n + 1, h => by
    show v_s f n + f n = v_s g n + g n
    rw [v_cg n (fun i hi => h i (by omega)), h n (by omega)]
def v_u (f : Nat → Nat) (d x : Nat) : Nat → Nat := fun i => if i = d then x else f i
theorem v_u_i (f : Nat → Nat) (d x : Nat) : v_u f d x d = x := if_pos rfl
theorem v_u_n (f : Nat → Nat) {d x i : Nat} (h : i ≠ d) : v_u f d x i = f i := if_neg h
theorem v_up (f : Nat → Nat) (d x : Nat) : ∀ n, d < n → v_s (v_u f d (f d + x)) n = v_s f n + x
  | 0, h => absurd h (Nat.not_lt_zero _)
  | n + 1, h => by
    show v_s (v_u f d (f d + x)) n + v_u f d (f d + x) n = v_s f n + f n + x
    by_cases e : n = d
    · subst e
      rw [v_u_i, v_cg (g := f) n (fun i hi => v_u_n f (by omega : i ≠ n))]
      omega
    · rw [v_u_n f e, v_up f d x n (by omega)]
      omega
theorem v_at (f : Nat → Nat) : ∀ n i, i < n → f i ≤ v_s f n
  | 0, _, h => absurd h (Nat.not_lt_zero _)
  | n + 1, i, h => by
    show f i ≤ v_s f n + f n
    by_cases e : i = n
    · subst e
      omega
    · have := v_at f n i (by omega)
      omega
theorem v_le (f : Nat → Nat) (K : Nat) : ∀ n, (∀ i, i < n → f i ≤ K) → v_s f n ≤ K * n
  | 0, _ => Nat.zero_le _
  | n + 1, h => by
    show v_s f n + f n ≤ K * (n + 1)
    have h1 := v_le f K n (fun i hi => h i (by omega))
    have h2 := h n (by omega)
    rw [Nat.mul_add, Nat.mul_one]
    omega
theorem v_mono {f g : Nat → Nat} : ∀ n, (∀ i, i < n → f i ≤ g i) → v_s f n ≤ v_s g n
  | 0, _ => Nat.le_refl _
  | n + 1, h => by
    show v_s f n + f n ≤ v_s g n + g n
    have h1 := v_mono n (fun i hi => h i (by omega))
    have h2 := h n (by omega)
    omega
-- what follows of a pair
theorem nI_m1 {n : Nat} (h : n < 2 ^ 31) : nI n ≠ -1 := by
  intro e
  have := nI_toInt h
  rw [e] at this
  have e1 : (-1 : Int32).toInt = -1 := by decide
  omega
theorem i_sub_sub (p f : Int32) : p - (p - f) = f := Int32.toBitVec_inj.1 (by
  rw [Int32.toBitVec_sub, Int32.toBitVec_sub]
  apply BitVec.eq_of_toNat_eq
  have h1 := p.toBitVec.isLt
  have h2 := f.toBitVec.isLt
  simp only [BitVec.toNat_sub]
  omega)
section REL
variable {M K : m_Mem} {N B : Nat}
theorem p_told (h : r_A M 0 (K 16 0 0) N B) (g : Int32) : f_told M 0 g = k_told K g := by
  unfold f_told k_told
  rw [h.2.2.1.2.1]
theorem p_worth (h : r_A M 0 (K 16 0 0) N B) (f : Int32) : f_worth M 0 f = k_worth K f := by
  unfold f_worth k_worth
  rw [h.2.2.2.2.2.1]
theorem p_price (h : r_A M 0 (K 16 0 0) N B) (g f : Int32) : f_price M 0 g f = k_price K g f := by
  unfold f_price k_price
  rw [p_worth h, p_told h]
  rfl
theorem p_priceN (h : r_A M 0 (K 16 0 0) N B) (g : Int32) : f_priceN M 0 g = k_price K g (K 16 0 0 8) := by
  unfold f_priceN
  rw [p_price h, h.2.2.2.2.1]
theorem p_fee (h : r_A M 0 (K 16 0 0) N B) (g : Int32) : f_fee M 0 g = k_fee K (k_price K g (K 16 0 0 8)) := by
  unfold f_fee k_fee
  rw [p_priceN h, h.2.2.2.2.2.2.1]
theorem p_pay (h : r_A M 0 (K 16 0 0) N B) (g : Int32) : f_pay M 0 g = k_pays K g := by
  unfold f_pay k_pays
  rw [p_priceN h, p_fee h]
theorem r_e (h : -50 ≤ M 7 0 0 8 ∧ M 7 0 0 8 ≤ 50) : ∃ e, e ≤ 1050 ∧ 1000 + M 7 0 0 8 = nI e := by
  obtain ⟨h1, h2⟩ := h
  have h1 : (-50 : Int32).toInt ≤ (M 7 0 0 8).toInt := Int32.le_iff_toInt_le.mp h1
  have h2 : (M 7 0 0 8).toInt ≤ (50 : Int32).toInt := Int32.le_iff_toInt_le.mp h2
  have e1 : (-50 : Int32).toInt = -50 := by decide
  have e2 : (50 : Int32).toInt = 50 := by decide
  have e3 : (1000 : Int32).toInt = 1000 := by decide
  refine ⟨(1000 + (M 7 0 0 8).toInt).toNat, by omega, Int32.toInt.inj ?_⟩
  rw [nI_toInt (by omega), Int32.toInt_add, e3, Int.bmod_eq_of_le (by omega) (by omega)]
  omega
-- sums of rows
theorem r_sum3 {g : Nat → Nat} {k : Nat} (j : Nat) (h : ∀ d, d < N → M 12 j d k = nI (g d)) : ∀ n, n ≤ N → f_tot M j k n = nI (v_s g n)
  | 0, _ => rfl
  | n + 1, hn => by
    show f_tot M j k n + M 12 j n k = nI (v_s g n + g n)
    rw [r_sum3 j h n (by omega), h n (by omega), nI_add]
theorem r_gold (h : r_W M 0 N B) (hB : B ≤ 12) : ∃ P G : Nat, f_tot M 0 4 N = nI P ∧ f_tot M 0 3 N = nI G ∧ P ≤ G ∧ G ≤ 1299987 := by
  obtain ⟨g, p, w, l, h1, h2, h3, h4, h5⟩ := h
  refine ⟨v_s p N, v_s g N, r_sum3 0 (fun d hd => (h1 d hd).2.1) N (Nat.le_refl _), r_sum3 0 (fun d hd => (h1 d hd).1) N (Nat.le_refl _), v_mono N (fun d hd => (h1 d hd).2.2), ?_⟩
  have := v_le w 99999 B (fun b hb => (h2 b hb).2.2)
  have : 99999 * B ≤ 99999 * 12 := Nat.mul_le_mul_left _ hB
  omega
end REL
