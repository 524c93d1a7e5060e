/-! the aim's search -/
abbrev betP (s b : Int) : Prop := b = 0 ∨ (s.natAbs : Int) < (b.natAbs : Int) ∨ ((s.natAbs : Int) = (b.natAbs : Int) ∧ 0 < s)
theorem way_s {d c s a : Int} (hc : 0 < c) (h : c * s = d + a * 27720) : (d + a * 27720).tmod c = 0 ∧ (d + a * 27720).tdiv c = s := by
  rw [← h]
  exact ⟨Int.mul_tmod_right .., Int.mul_tdiv_cancel_left _ (Int.ne_of_gt hc)⟩
theorem way_d {d c a : Int} (h : (d + a * 27720).tmod c = 0) : c * (d + a * 27720).tdiv c = d + 27720 * a := by
  have e := Int.mul_tdiv_add_tmod (d + a * 27720) c
  omega
theorem aimU_k {d c a b : Int} (hc : 0 < c) (h : AimU d c a b) (hn : ∀ s, isStepP s → c * s = d + 27720 * a → (b = 0 → False) ∧ (isStepP b → AimB b s)) : AimU d c (a + 1) b := by
  rcases h with ⟨h1, h2⟩ | ⟨h1, h2, h3⟩
  · refine Or.inl ⟨h1, fun s k hk hs he => ?_⟩
    by_cases e : k = a
    · subst e
      exact (hn s hs he).1 h1
    · exact h2 s k (by omega) hs he
  · refine Or.inr ⟨h1, h2, fun s k hk hs he => ?_⟩
    by_cases e : k = a
    · subst e
      exact (hn s hs he).2 h1
    · exact h3 s k (by omega) hs he
theorem aimU_a {d c a b : Int} (hc : 0 < c) (h : AimU d c a b) (hm : ¬ (d + a * 27720).tmod c = 0) : AimU d c (a + 1) b :=
  aimU_k hc h (fun s _ he => absurd (way_s hc (by omega : c * s = d + a * 27720)).1 hm)
theorem aimU_b {d c a b : Int} (hc : 0 < c) (h : AimU d c a b) (hm : ¬ isStepP ((d + a * 27720).tdiv c)) : AimU d c (a + 1) b :=
  aimU_k hc h (fun s hs he => absurd (by rw [(way_s hc (by omega : c * s = d + a * 27720)).2]; exact hs) hm)
theorem aimU_c {d c a b : Int} (hc : 0 < c) (h : AimU d c a b) (hm : ¬ betP ((d + a * 27720).tdiv c) b) : AimU d c (a + 1) b :=
  aimU_k hc h (fun s hs he => by
    rw [(way_s hc (by omega : c * s = d + a * 27720)).2] at hm
    refine ⟨fun q => hm (Or.inl q), fun hb => ?_⟩
    unfold AimB
    have := hs.1
    unfold isStepP at hb
    omega)
theorem aimU_d {d c a b : Int} (hc : 0 < c) (h : AimU d c a b) (h0 : (d + a * 27720).tmod c = 0) (hs0 : isStepP ((d + a * 27720).tdiv c)) (hm : betP ((d + a * 27720).tdiv c) b) : AimU d c (a + 1) ((d + a * 27720).tdiv c) := by
  have hw := way_d h0
  generalize (d + a * 27720).tdiv c = s0 at hs0 hm hw
  refine Or.inr ⟨hs0, ⟨a, hw⟩, fun s k hk hs he => ?_⟩
  by_cases e : k = a
  · subst e
    have hq : c * s = c * s0 := he.trans hw.symm
    have : s = s0 := Int.eq_of_mul_eq_mul_left (Int.ne_of_gt hc) hq
    subst this
    exact Or.inr ⟨rfl, Or.inl rfl⟩
  · rcases h with ⟨h1, h2⟩ | ⟨h1, h2, h3⟩
    · exact absurd he (fun q => h2 s k (by omega) hs q)
    · have q := h3 s k (by omega) hs he
      have z1 := h1.1
      have z2 := hs.1
      have z3 := hs0.1
      unfold AimB at q ⊢
      omega
theorem aim_kb {d c s k : Int} (hd : -27720 < d ∧ d < 27720) (hc : 0 < c) (hs : isStepP s) (h : c * s = d + 27720 * k) : -c ≤ k ∧ k ≤ c := by
  have h1 : c * s ≤ c * 13859 := Int.mul_le_mul_of_nonneg_left hs.2.2 (Int.le_of_lt hc)
  have h2 : c * (-13859) ≤ c * s := Int.mul_le_mul_of_nonneg_left hs.2.1 (Int.le_of_lt hc)
  omega
theorem aimU_0 {d c : Int} (hd : -27720 < d ∧ d < 27720) (hc : 0 < c) : AimU d c (-c) 0 := Or.inl ⟨rfl, fun s k hk hs he => by
  have := aim_kb hd hc hs he
  omega⟩
theorem aimU_e {d c b : Int} (hd : -27720 < d ∧ d < 27720) (hc : 0 < c) (h : AimU d c (c + 1) b) : aimF d c = b := by
  apply aimF_eq
  rcases h with ⟨h1, h2⟩ | ⟨h1, h2, h3⟩
  · exact Or.inl ⟨h1, fun s ⟨hs, k, he⟩ => h2 s k (by have := aim_kb hd hc hs he; omega) hs he⟩
  · exact Or.inr ⟨⟨h1, h2⟩, fun s ⟨hs, k, he⟩ => h3 s k (by have := aim_kb hd hc hs he; omega) hs he⟩
theorem aim_R (d c : Int) : aimF d c = 0 ∨ isStepP (aimF d c) ∨ True := Or.inr (Or.inr trivial)
theorem aimU_R {d c a b : Int} (h : AimU d c a b) : -13859 ≤ b ∧ b ≤ 13859 := by
  rcases h with ⟨h1, -⟩ | ⟨h1, -, -⟩
  · omega
  · exact h1.2
theorem way_R {d c a : Int} (hd : -27720 < d ∧ d < 27720) (hc : 1 ≤ c ∧ c ≤ 50) (ha : -c ≤ a ∧ a ≤ c) : R32 (d + a * 27720) ∧ R32 ((d + a * 27720).tdiv c) ∧ R32 ((d + a * 27720).tmod c) := by
  have h1 := Int.natAbs_tdiv_le_natAbs (d + a * 27720) c
  have h2 := tmod_s (d + a * 27720) c (by omega)
  refine ⟨⟨by omega, by omega⟩, ⟨by omega, by omega⟩, ⟨by omega, by omega⟩⟩
theorem aim_ex {d c : Int} (hd : -27720 < d ∧ d < 27720) (hc : 0 < c) : ∀ k : Nat, ∃ b, AimU d c (-c + (k : Int)) b
  | 0 => ⟨0, by simpa using aimU_0 hd hc⟩
  | k + 1 => by
    obtain ⟨b, hb⟩ := aim_ex hd hc k
    rw [show -c + ((k + 1 : Nat) : Int) = -c + (k : Int) + 1 by omega]
    by_cases h1 : (d + (-c + (k : Int)) * 27720).tmod c = 0
    · by_cases h2 : isStepP ((d + (-c + (k : Int)) * 27720).tdiv c)
      · by_cases h3 : betP ((d + (-c + (k : Int)) * 27720).tdiv c) b
        · exact ⟨_, aimU_d hc hb h1 h2 h3⟩
        · exact ⟨_, aimU_c hc hb h3⟩
      · exact ⟨_, aimU_b hc hb h2⟩
    · exact ⟨_, aimU_a hc hb h1⟩
theorem aim_R32 {d c : Int} (hd : -27720 < d ∧ d < 27720) (hc : 0 < c) : -13859 ≤ aimF d c ∧ aimF d c ≤ 13859 := by
  obtain ⟨b, hb⟩ := aim_ex hd hc (2 * c + 1).toNat
  rw [show -c + ((2 * c + 1).toNat : Int) = c + 1 by omega] at hb
  rw [aimU_e hd hc hb]
  exact aimU_R hb
