/-! p30: chords, orders, turns: what the numbers are -/
theorem chord_neg (s : Int) : chordF (-s) = chordF s := by unfold chordF; rw [Int.natAbs_neg]
theorem caus_neg (s : Int) : causF (-s) = causF s := by unfold causF; rw [Int.natAbs_neg]
theorem gcd_neg1 (s : Int) : gcdF (-s) = gcdF s := by rw [← gcd_abs (-s), Int.natAbs_neg, gcd_abs]
theorem chord_nat {a : Int} (h : 0 ≤ a) : chordF a = sineF 2000000 a := by unfold chordF; rw [Int.natAbs_of_nonneg h]
theorem caus_nat {a : Int} (h : 0 ≤ a) : causF a = sineF 1000000 (13860 - a) := by unfold causF; rw [Int.natAbs_of_nonneg h]
theorem chord_abs (s : Int) : chordF (s.natAbs : Int) = chordF s := by unfold chordF; rw [Int.natAbs_natCast]
theorem chord_pos {a : Int} (h : 1 ≤ a ∧ a ≤ 13859) : 0 < chordF a := by
  rw [chord_nat (by omega)]
  have h1 : sineF 2000000 1 ≤ sineF 2000000 a := sine_mono (by decide) (by decide) h.1 (by omega)
  have h2 : 0 < sineF 2000000 1 := by decide
  omega
theorem chord_mono {a : Int} (h : 1 ≤ a) (h2 : a + 1 ≤ 13859) : chordF a ≤ chordF (a + 1) := by
  rw [chord_nat (by omega), chord_nat (by omega)]
  exact sine_mono (by decide) (by omega) (by omega) (by omega)
theorem caus_mono2 {a : Int} (h : 1 ≤ a) (h2 : a + 1 ≤ 13859) : causF (a + 1) ≤ causF a := by
  rw [caus_nat (by omega), caus_nat (by omega)]
  exact sine_mono (by decide) (by omega) (by omega) (by omega)
theorem chord_nn {s : Int} (h : isStepP s) : 0 ≤ chordF s ∧ chordF s ≤ 2000000 := chord_R h.2
/-- the order and the turns of a step -/
theorem ord_turns (s : Int) : 27720 / gcdF s * (s.natAbs : Int) = (s.natAbs : Int) / gcdF s * 27720 := by
  have hg := gcd_pos s
  obtain ⟨u, hu⟩ := gcd_dvd s
  obtain ⟨v, hv⟩ := gcd_dvd_r (s.natAbs : Int)
  rw [gcd_abs] at hv
  generalize gcdF s = g at *
  rw [hv]
  rw [show (27720 : Int) / g = u by rw [hu]; exact Int.mul_ediv_cancel_left _ (Int.ne_of_gt hg), Int.mul_ediv_cancel_left _ (Int.ne_of_gt hg)]
  rw [hu, Int.mul_left_comm, Int.mul_left_comm v g u, Int.mul_comm u v]
theorem ord_R (s : Int) : 1 ≤ 27720 / gcdF s ∧ 27720 / gcdF s ≤ 27720 := by
  have hg := gcd_pos s
  have h2 := gcd_le s
  exact ⟨(Int.le_ediv_iff_mul_le hg).mpr (by omega), Int.ediv_le_self _ (by decide)⟩
theorem turns_R {s : Int} (h : -13859 ≤ s ∧ s ≤ 13859) : 0 ≤ (s.natAbs : Int) / gcdF s ∧ (s.natAbs : Int) / gcdF s ≤ 13859 := by
  have hg := gcd_pos s
  have h1 : (s.natAbs : Int) / gcdF s ≤ (s.natAbs : Int) := Int.ediv_le_self _ (by omega)
  exact ⟨Int.ediv_nonneg (by omega) (by omega), by omega⟩
theorem prod_R {a b : Int} (h : 0 ≤ a ∧ a ≤ 27720) (h2 : 0 ≤ b ∧ b ≤ 27720) : 0 ≤ a * b ∧ a * b ≤ 768398400 := by
  have h3 := Int.mul_nonneg h.1 h2.1
  have h4 := Int.mul_le_mul h.2 h2.2 h2.1 (by decide)
  omega
/-- aims: what is known of the answer -/
theorem aim_ex2 {d c : Int} (hd : -27720 < d ∧ d < 27720) (hc : 0 < c) : AimR d c (aimF d c) := by
  obtain ⟨b, hb⟩ := aim_ex hd hc (2 * c + 1).toNat
  rw [show -c + ((2 * c + 1).toNat : Int) = c + 1 by omega] at hb
  rw [aimU_e hd hc hb]
  rcases hb with ⟨h1, h2⟩ | ⟨h1, h2, h3⟩
  · exact Or.inl ⟨h1, fun s ⟨hs, k, he⟩ => h2 s k (by have := aim_kb hd hc hs he; omega) hs he⟩
  · exact Or.inr ⟨⟨h1, h2⟩, fun s ⟨hs, k, he⟩ => h3 s k (by have := aim_kb hd hc hs he; omega) hs he⟩
theorem aim_none {d : Int} (hd : -27720 < d ∧ d < 27720) (h : aimF d 1 = 0) : (d + 27720) % 27720 = 0 ∨ (d + 27720) % 27720 = 13860 := by
  have e := aim_ex2 hd (show (0 : Int) < 1 by decide)
  rw [h] at e
  rcases e with ⟨-, h2⟩ | ⟨h1, -⟩
  · apply Decidable.byContradiction
    intro q
    have q1 : ¬ (d + 27720) % 27720 = 0 := fun z => q (Or.inl z)
    have q2 : ¬ (d + 27720) % 27720 = 13860 := fun z => q (Or.inr z)
    by_cases hl : (d + 27720) % 27720 < 13860
    · exact h2 ((d + 27720) % 27720) ⟨⟨by omega, by omega, by omega⟩, -(d / 27720), by omega⟩
    · exact h2 ((d + 27720) % 27720 - 27720) ⟨⟨by omega, by omega, by omega⟩, -(d / 27720) - 1, by omega⟩
  · exact absurd rfl h1.1.1
theorem aim_some {d c : Int} (hd : -27720 < d ∧ d < 27720) (hc : 0 < c) (h : ¬ aimF d c = 0) : isStepP (aimF d c) ∧ ∃ k : Int, c * aimF d c = d + 27720 * k := by
  rcases aim_ex2 hd hc with ⟨h1, -⟩ | ⟨h1, -⟩
  · exact absurd h1 h
  · exact h1
theorem gcd_neg2 (s : Int) : 27720 / gcdF (-s) = 27720 / gcdF s := by rw [gcd_neg1]
