/-! the reference: its aims, its widest -/
def AimM (d c a : Int) : Prop := ∀ s k : Int, (s.natAbs : Int) < a → isStepP s → c * s = d + 27720 * k → False
theorem aimM_s {d c a : Int} (hc : 1 ≤ c ∧ c ≤ 50) (ha : 1 ≤ a ∧ a ≤ 13859) (h : AimM d c a) (h1 : ¬ c * a % 27720 = (d + 27720) % 27720) (h2 : ¬ (27720 - c * a % 27720) % 27720 = (d + 27720) % 27720) : AimM d c (a + 1) := by
  intro s k hs hp he
  rcases (show (s.natAbs : Int) < a ∨ s = a ∨ s = -a by omega) with e | e | e
  · exact h s k e hp he
  · subst e
    omega
  · subst e
    rw [Int.mul_neg] at he
    omega
theorem aimM_p {d c a : Int} (hc : 1 ≤ c ∧ c ≤ 50) (ha : 1 ≤ a ∧ a ≤ 13859) (h : AimM d c a) (h1 : c * a % 27720 = (d + 27720) % 27720) : aimF d c = a := by
  apply aimF_eq
  refine Or.inr ⟨⟨⟨by omega, by omega, by omega⟩, (c * a - d) / 27720, by omega⟩, fun s hs => ?_⟩
  obtain ⟨hp, k, he⟩ := hs
  have h0 := h s k
  unfold AimB
  by_cases hq : (s.natAbs : Int) < a
  · exact absurd he (fun q => h0 hq hp q)
  · omega
theorem aimM_n {d c a : Int} (hc : 1 ≤ c ∧ c ≤ 50) (ha : 1 ≤ a ∧ a ≤ 13859) (h : AimM d c a) (h1 : ¬ c * a % 27720 = (d + 27720) % 27720) (h2 : (27720 - c * a % 27720) % 27720 = (d + 27720) % 27720) : aimF d c = -a := by
  apply aimF_eq
  refine Or.inr ⟨⟨⟨by omega, by omega, by omega⟩, (c * (-a) - d) / 27720, by rw [Int.mul_neg]; omega⟩, fun s hs => ?_⟩
  obtain ⟨hp, k, he⟩ := hs
  have h0 := h s k
  unfold AimB
  by_cases hq : (s.natAbs : Int) < a
  · exact absurd he (fun q => h0 hq hp q)
  · by_cases e : s = a
    · subst e
      omega
    · omega
theorem aimM_e {d c : Int} (h : AimM d c 13860) : aimF d c = 0 := by
  apply aimF_eq
  exact Or.inl ⟨rfl, fun s hs => by
    obtain ⟨hp, k, he⟩ := hs
    have hp2 := hp
    unfold isStepP at hp2
    exact h s k (by omega) hp he⟩
theorem mulR {c a : Int} (hc : 1 ≤ c ∧ c ≤ 50) (ha : 1 ≤ a ∧ a ≤ 13859) : 0 ≤ c * a ∧ c * a ≤ 692950 := by
  have h1 := Int.mul_nonneg (a := c) (b := a) (by omega) (by omega)
  have h2 := Int.mul_le_mul_of_nonneg_left (a := a) (b := 13859) (c := c) ha.2 (by omega)
  omega
theorem gcd_one : gcdF 1 = 1 := by decide
theorem ord_R (a : Int) : 0 ≤ 27720 / gcdF a ∧ 27720 / gcdF a ≤ 27720 := by
  have h := gcd_pos a
  exact ⟨Int.ediv_nonneg (by decide) (by omega), Int.ediv_le_self _ (by decide)⟩
def WidI (k b m a : Int) : Prop := (a = 1 → b = -100009 ∧ m = 0) ∧ (k ≤ causF 1 → 1 < a → b = 1 ∧ m = 27720) ∧ (¬ k ≤ causF 1 → b = -100009 ∧ m = 0)
theorem wid_no {k b m a : Int} (ha : 1 ≤ a ∧ a ≤ 13859) (h : WidI k b m a) (hn : 27720 / gcdF a ≤ m ∨ causF a < k) : WidI k b m (a + 1) := by
  obtain ⟨h1, h2, h3⟩ := h
  refine ⟨fun q => by omega, fun q _ => ?_, h3⟩
  by_cases e : a = 1
  · subst e
    rw [gcd_one] at hn
    have := h1 rfl
    omega
  · exact h2 q (by omega)
theorem wid_yes {k b m a : Int} (ha : 1 ≤ a ∧ a ≤ 13859) (h : WidI k b m a) (h4 : m < 27720 / gcdF a) (h5 : k ≤ causF a) : WidI k a (27720 / gcdF a) (a + 1) := by
  obtain ⟨h1, h2, h3⟩ := h
  have hm := caus_mono ha
  have ho := ord_R a
  have hk : k ≤ causF 1 := by omega
  by_cases e : a = 1
  · subst e
    refine ⟨fun q => by omega, fun _ _ => ⟨rfl, by rw [gcd_one]; rfl⟩, fun q => absurd hk q⟩
  · have := h2 hk (by omega)
    omega
theorem wid_e {k b m : Int} (h : WidI k b m 13860) : b = if k ≤ causF 1 then 1 else -100009 := by
  split
  · rename_i q
    exact (h.2.1 q (by decide)).1
  · rename_i q
    exact (h.2.2 q).1
