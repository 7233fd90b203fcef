/-! SEARCHES by halving find what searches one by one find. -/
def q_P (e f s n : Nat) : Nat := n * e / 1000 * f / 1000 * s / 10
theorem q_P_b {e f s n : Nat} (he : e ≤ 1050) (hf : f ≤ 1000) (hs : s ≤ 999) (hn : n ≤ 9999) : n * e ≤ 10498950 ∧ n * e / 1000 * f ≤ 10498000 ∧ n * e / 1000 * f / 1000 * s ≤ 10487502 ∧ q_P e f s n ≤ 1048750 := by
  have a1 : n * e ≤ 9999 * 1050 := Nat.mul_le_mul hn he
  have a2 : n * e / 1000 * f ≤ 10498 * 1000 := Nat.mul_le_mul (by omega) hf
  have a3 : n * e / 1000 * f / 1000 * s ≤ 10498 * 999 := Nat.mul_le_mul (by omega) hs
  unfold q_P
  refine ⟨by omega, by omega, by omega, by omega⟩
theorem q_P_m {e f s a b : Nat} (h : a ≤ b) : q_P e f s a ≤ q_P e f s b :=
  Nat.div_le_div_right (Nat.mul_le_mul_right _ (Nat.div_le_div_right (Nat.mul_le_mul_right _ (Nat.div_le_div_right (Nat.mul_le_mul_right _ h)))))
theorem q_P_f {e s n a b : Nat} (h : a ≤ b) : q_P e a s n ≤ q_P e b s n :=
  Nat.div_le_div_right (Nat.mul_le_mul_right _ (Nat.div_le_div_right (Nat.mul_le_mul_left _ h)))
section SEEK
variable {M K : m_Mem} {e f s w : Nat}
theorem q_price (he : 1000 + M 7 0 0 8 = nI e) (hs : M 11 0 0 1 = nI s) (h1 : e ≤ 1050) (h3 : s ≤ 999) {n f : Nat} (h2 : f ≤ 1000) (hn : n ≤ 9999) : f_price M 0 (nI n) (nI f) = nI (q_P e f s n) := by
  obtain ⟨a1, a2, a3, a4⟩ := q_P_b h1 h2 h3 hn
  unfold f_price f_worth f_told
  rw [he, hs, nI_mul]
  have e1 : nI (n * e) / 1000 = nI (n * e / 1000) := nI_quo (b := 1000) (by omega) (by decide) (by decide)
  rw [e1, nI_mul]
  have e2 : nI (n * e / 1000 * f) / 1000 = nI (n * e / 1000 * f / 1000) := nI_quo (b := 1000) (by omega) (by decide) (by decide)
  rw [e2, nI_mul]
  exact nI_quo (b := 10) (by omega) (by decide) (by decide)
theorem q_pay (he : 1000 + M 7 0 0 8 = nI e) (hf : M 11 0 0 0 = nI f) (hs : M 11 0 0 1 = nI s) (hw : M 11 0 0 2 = nI w) (h1 : e ≤ 1050) (h2 : f ≤ 1000) (h3 : s ≤ 999) (h4 : w ≤ 50) {n : Nat} (hn : n ≤ 9999) :
    f_pay M 0 (nI n) = nI (q_P e f s n - w * q_P e f s n / 100) := by
  obtain ⟨a1, a2, a3, a4⟩ := q_P_b h1 h2 h3 hn
  have a5 : w * q_P e f s n ≤ 50 * 1048750 := Nat.mul_le_mul h4 a4
  have a6 : w * q_P e f s n ≤ 50 * q_P e f s n := Nat.mul_le_mul_right _ h4
  unfold f_pay f_fee f_priceN
  rw [hf, q_price he hs h1 h3 h2 hn, hw, nI_mul]
  have e1 : nI (w * q_P e f s n) / 100 = nI (w * q_P e f s n / 100) := nI_quo (b := 100) (by omega) (by decide) (by decide)
  rw [e1]
  exact nI_subs (by omega)
/-- what is paid never falls, what is asked never falls -/
def q_up (M : m_Mem) : Prop := ∀ a b : Nat, a ≤ b → b ≤ 9999 → f_pay M 0 (nI a) ≤ f_pay M 0 (nI b)
def q_us (M : m_Mem) : Prop := ∀ a b : Nat, a ≤ b → b ≤ 1000 → f_price M 0 1000 (nI a) ≤ f_price M 0 1000 (nI b)
theorem q_up_ok (he : 1000 + M 7 0 0 8 = nI e) (hf : M 11 0 0 0 = nI f) (hs : M 11 0 0 1 = nI s) (hw : M 11 0 0 2 = nI w) (h1 : e ≤ 1050) (h2 : f ≤ 1000) (h3 : s ≤ 999) (h4 : w ≤ 50) : q_up M := by
  intro a b hab hb
  rw [q_pay he hf hs hw h1 h2 h3 h4 (Nat.le_trans hab hb), q_pay he hf hs hw h1 h2 h3 h4 hb]
  have m := q_P_m (e := e) (f := f) (s := s) hab
  have c := (q_P_b h1 h2 h3 hb).2.2.2
  obtain ⟨d, hd⟩ : ∃ d, q_P e f s b = q_P e f s a + d := ⟨q_P e f s b - q_P e f s a, by omega⟩
  have k : w * q_P e f s b ≤ w * q_P e f s a + 100 * d := by
    rw [hd, Nat.mul_add]
    exact Nat.add_le_add_left (Nat.mul_le_mul_right _ (by omega)) _
  have l : w * q_P e f s a ≤ 50 * q_P e f s a := Nat.mul_le_mul_right _ h4
  refine nI_le ?_ (by omega)
  omega
theorem q_us_ok (he : 1000 + M 7 0 0 8 = nI e) (hs : M 11 0 0 1 = nI s) (h1 : e ≤ 1050) (h3 : s ≤ 999) : q_us M := by
  intro a b hab hb
  have c := (q_P_b (n := 1000) h1 hb h3 (by decide)).2.2.2
  have ea : f_price M 0 1000 (nI a) = nI (q_P e a s 1000) := q_price (n := 1000) he hs h1 h3 (Nat.le_trans hab hb) (by decide)
  have eb : f_price M 0 1000 (nI b) = nI (q_P e b s 1000) := q_price (n := 1000) he hs h1 h3 hb (by decide)
  rw [ea, eb]
  exact nI_le (q_P_f hab) (by omega)
/-- where a falling property ends -/
theorem q_G (P : Nat → Prop) (lo N : Nat) (hd : ∀ a b, a ≤ b → b ≤ N → P b → P a) : ∀ k, lo + k ≤ N → ∃ G, lo ≤ G ∧ G ≤ lo + k ∧ ∀ n, lo < n → n ≤ lo + k → (P n ↔ n ≤ G) := by
  intro k
  induction k with
  | zero => exact fun _ => ⟨lo, Nat.le_refl _, Nat.le_refl _, fun n h1 h2 => by omega⟩
  | succ k ih =>
    intro hk
    by_cases h : P (lo + (k + 1))
    · exact ⟨lo + (k + 1), by omega, Nat.le_refl _, fun n h1 h2 => ⟨fun _ => h2, fun _ => hd n _ h2 hk h⟩⟩
    · obtain ⟨G, g1, g2, g3⟩ := ih (by omega)
      refine ⟨G, g1, by omega, fun n h1 h2 => ?_⟩
      by_cases e : n = lo + (k + 1)
      · subst e
        exact ⟨fun q => (h q).elim, fun q => by omega⟩
      · exact g3 n h1 (by omega)
theorem q_fs {c : Int32} {G : Nat} (hG : ∀ n, 0 < n → n ≤ 9999 → (f_pay M 0 (nI n) < c ↔ n ≤ G)) (hG2 : G ≤ 9999) (s : Nat) (hs : 0 < s) (hs2 : s ≤ 8192) {v : Int32} (h : ∃ t, v = nI t ∧ t ≤ G ∧ G < t + 2 * s) : ∃ t, f_fs M 0 c v (nI s) = nI t ∧ t ≤ G ∧ G < t + s := by
  obtain ⟨t, rfl, h1, h2⟩ := h
  unfold f_fs
  rw [nI_add]
  by_cases hc : t + s ≤ G
  · rw [if_pos ⟨(nI_le (by omega) (by decide) : nI (t + s) ≤ nI 9999), (hG _ (by omega) (by omega)).mpr hc⟩]
    exact ⟨t + s, rfl, hc, by omega⟩
  · refine ⟨t, if_neg ?_, h1, by omega⟩
    rintro ⟨q1, q2⟩
    have q3 : t + s ≤ 9999 := (nI_leI (by omega) (by decide)).mp (q1 : nI (t + s) ≤ nI 9999)
    exact hc ((hG _ (by omega) q3).mp q2)
theorem q_fe {c : Int32} {G : Nat} (hp : ∀ g, k_pays K g = f_pay M 0 g) (hG : ∀ n, 0 < n → n ≤ 9999 → (f_pay M 0 (nI n) < c ↔ n ≤ G)) (hG2 : G ≤ 9999) : ∀ (k i : Nat), i + k = 10000 → 0 < i → i ≤ G + 1 → k_fe K c k i = if G < 9999 then nI (G + 1) else -1 := by
  intro k
  induction k with
  | zero =>
    intro i h1 h2 h3
    rw [if_neg (by omega)]
    rfl
  | succ k ih =>
    intro i h1 h2 h3
    show (if k_pays K (nI i) < c then k_fe K c k (i + 1) else nI i) = _
    rw [hp]
    by_cases h : i ≤ G
    · rw [if_pos ((hG i h2 (by omega)).mpr h)]
      exact ih (i + 1) (by omega) (by omega) (by omega)
    · rw [if_neg (fun q => h ((hG i h2 (by omega)).mp q)), if_pos (by omega)]
      exact congrArg nI (by omega)
theorem q_few (hm : q_up M) (hp : ∀ g, k_pays K g = f_pay M 0 g) (c : Int32) : k_fe K c 9999 1 = f_gf M c := by
  obtain ⟨G, -, g2, g3⟩ := q_G (fun n => f_pay M 0 (nI n) < c) 0 9999 (fun a b h1 h2 h3 => Int32.lt_of_le_of_lt (hm a b h1 h2) h3) 9999 (by decide)
  rw [Nat.zero_add] at g2
  have g4 : ∀ n, 0 < n → n ≤ 9999 → (f_pay M 0 (nI n) < c ↔ n ≤ G) := fun n h1 h2 => g3 n h1 (by omega)
  have st := fun s h1 h2 v h => q_fs (M := M) g4 g2 s h1 h2 (v := v) h
  have r := st 1 (by decide) (by decide) _ (st 2 (by decide) (by decide) _ (st 4 (by decide) (by decide) _ (st 8 (by decide) (by decide) _ (st 16 (by decide) (by decide) _ (st 32 (by decide) (by decide) _ (st 64 (by decide) (by decide) _ (st 128 (by decide) (by decide) _ (st 256 (by decide) (by decide) _ (st 512 (by decide) (by decide) _ (st 1024 (by decide) (by decide) _ (st 2048 (by decide) (by decide) _ (st 4096 (by decide) (by decide) _ (st 8192 (by decide) (by decide) 0 ⟨0, rfl, by omega, by omega⟩)))))))))))))
  obtain ⟨t, r1, r2, r3⟩ := r
  have et : f_ft M 0 c = nI G := by
    have : t = G := by omega
    subst this
    exact r1
  unfold f_gf
  rw [q_fe hp g4 g2 9999 1 (by decide) (by decide) (by omega), et]
  by_cases h : G < 9999
  · have h2 : nI G < 9999 := (nI_lt h (by decide) : nI G < nI 9999)
    rw [if_pos h, if_pos h2, nI_1]
  · have h2 : ¬ nI G < 9999 := (nI_nlt (Nat.not_lt.mp h) (by omega) : ¬ nI G < nI 9999)
    rw [if_neg h, if_neg h2]
theorem q_ss {c : Int32} {G : Nat} (hG : ∀ n, 499 < n → n ≤ 1000 → (f_price M 0 1000 (nI n) ≤ c ↔ n ≤ G)) (hG2 : G ≤ 1000) (s : Nat) (hs : 0 < s) (hs2 : s ≤ 256) {v : Int32} (h : ∃ t, v = nI t ∧ 499 ≤ t ∧ t ≤ G ∧ G < t + 2 * s) : ∃ t, f_ss M 0 c v (nI s) = nI t ∧ 499 ≤ t ∧ t ≤ G ∧ G < t + s := by
  obtain ⟨t, rfl, h0, h1, h2⟩ := h
  unfold f_ss
  rw [nI_add]
  by_cases hc : t + s ≤ G
  · rw [if_pos ⟨(nI_le (by omega) (by decide) : nI (t + s) ≤ nI 1000), (hG _ (by omega) (by omega)).mpr hc⟩]
    exact ⟨t + s, rfl, by omega, hc, by omega⟩
  · refine ⟨t, if_neg ?_, h0, h1, by omega⟩
    rintro ⟨q1, q2⟩
    have q3 : t + s ≤ 1000 := (nI_leI (by omega) (by decide)).mp (q1 : nI (t + s) ≤ nI 1000)
    exact hc ((hG _ (by omega) q3).mp q2)
theorem q_sd {c : Int32} {G : Nat} (hp : ∀ g f, k_price K g f = f_price M 0 g f) (hG : ∀ n, 499 < n → n ≤ 1000 → (f_price M 0 1000 (nI n) ≤ c ↔ n ≤ G)) (hG1 : 499 ≤ G) (hG2 : G ≤ 1000) : ∀ k : Nat, k ≤ 501 → G ≤ 499 + k → k_sd K c k = if 500 ≤ G then nI G else -1 := by
  intro k
  induction k with
  | zero =>
    intro h1 h2
    rw [if_neg (by omega)]
    rfl
  | succ k ih =>
    intro h1 h2
    show (if c < k_price K 1000 (nI (500 + k)) then k_sd K c k else nI (500 + k)) = _
    rw [hp]
    by_cases h : 500 + k ≤ G
    · rw [if_neg (Int32.not_lt.mpr ((hG _ (by omega) (by omega)).mpr h)), if_pos (by omega)]
      exact congrArg nI (by omega)
    · rw [if_pos (Int32.not_le.mp (fun q => h ((hG _ (by omega) (by omega)).mp q)))]
      exact ih (by omega) (by omega)
theorem q_safe (hm : q_us M) (hp : ∀ g f, k_price K g f = f_price M 0 g f) (c : Int32) : k_sd K c 501 = if 500 ≤ f_st M 0 c then f_st M 0 c else -1 := by
  obtain ⟨G, g1, g2, g3⟩ := q_G (fun n => f_price M 0 1000 (nI n) ≤ c) 499 1000 (fun a b h1 h2 h3 => Int32.le_trans (hm a b h1 h2) h3) 501 (by decide)
  have g4 : ∀ n, 499 < n → n ≤ 1000 → (f_price M 0 1000 (nI n) ≤ c ↔ n ≤ G) := fun n h1 h2 => g3 n h1 h2
  have st := fun s h1 h2 v h => q_ss (M := M) g4 g2 s h1 h2 (v := v) h
  have r := st 1 (by decide) (by decide) _ (st 2 (by decide) (by decide) _ (st 4 (by decide) (by decide) _ (st 8 (by decide) (by decide) _ (st 16 (by decide) (by decide) _ (st 32 (by decide) (by decide) _ (st 64 (by decide) (by decide) _ (st 128 (by decide) (by decide) _ (st 256 (by decide) (by decide) 499 ⟨499, rfl, by omega, by omega, by omega⟩))))))))
  obtain ⟨t, r1, r2, r3, r4⟩ := r
  have et : f_st M 0 c = nI G := by
    have : t = G := by omega
    subst this
    exact r1
  rw [q_sd hp g4 g1 g2 501 (by decide) (by omega), et]
  by_cases h : 500 ≤ G
  · have h2 : (500 : Int32) ≤ nI G := (nI_le h (by omega) : nI 500 ≤ nI G)
    rw [if_pos h, if_pos h2]
  · have h2 : ¬ (500 : Int32) ≤ nI G := (nI_ge (by omega) (by decide) : ¬ nI 500 ≤ nI G)
    rw [if_neg h, if_neg h2]
end SEEK
