/-! what the numbers are: chords, caustics, divisors, aims -/
def bow (u : Int) : Int := u * (27720 - u)
theorem bow_R {u : Int} (h : 0 ≤ u ∧ u ≤ 27720) : 0 ≤ bow u ∧ bow u ≤ 192099600 := by
  unfold bow
  refine ⟨Int.mul_nonneg h.1 (by omega), ?_⟩
  have e : u * (27720 - u) = 192099600 - (u - 13860) * (u - 13860) := by
    rw [Int.mul_sub, Int.sub_mul, Int.mul_sub, Int.mul_sub]
    omega
  have h2 : 0 ≤ (u - 13860) * (u - 13860) := by
    by_cases h3 : 0 ≤ u - 13860
    · exact Int.mul_nonneg h3 h3
    · have := Int.mul_nonneg (a := -(u - 13860)) (b := -(u - 13860)) (by omega) (by omega)
      rwa [Int.neg_mul_neg] at this
  omega
theorem bow_mono {u v : Int} (h : 0 ≤ u) (h2 : u ≤ v) (h3 : v ≤ 13860) : bow u ≤ bow v := by
  unfold bow
  have e : v * (27720 - v) - u * (27720 - u) = (v - u) * (27720 - v - u) := by
    rw [Int.mul_sub, Int.mul_sub, Int.sub_mul, Int.mul_sub, Int.mul_sub, Int.mul_sub, Int.mul_sub, Int.mul_comm u v]
    omega
  have := Int.mul_nonneg (a := v - u) (b := 27720 - v - u) (by omega) (by omega)
  omega
def sineF (scale units : Int) : Int := 16 * scale * bow units / (3841992000 - 4 * bow units)
theorem sine_R {scale u : Int} (hs : 0 ≤ scale) (h : 0 ≤ u ∧ u ≤ 27720) : 0 ≤ sineF scale u ∧ sineF scale u ≤ scale := by
  have hb := bow_R h
  unfold sineF
  refine ⟨Int.ediv_nonneg (Int.mul_nonneg (by omega) hb.1) (by omega), ?_⟩
  refine Int.ediv_le_of_le_mul (by omega) ?_
  have e : scale * (3841992000 - 4 * bow u) - 16 * scale * bow u = scale * (3841992000 - 20 * bow u) := by
    rw [Int.mul_sub, Int.mul_sub, Int.mul_comm 16 scale, Int.mul_assoc]
    rw [show scale * (4 * bow u) = 4 * (scale * bow u) by rw [Int.mul_left_comm], show scale * (16 * bow u) = 16 * (scale * bow u) by rw [Int.mul_left_comm], show scale * (20 * bow u) = 20 * (scale * bow u) by rw [Int.mul_left_comm]]
    omega
  have := Int.mul_nonneg (a := scale) (b := 3841992000 - 20 * bow u) hs (by omega)
  omega
theorem ediv_mono2 {a b c d : Int} (h0 : 0 ≤ a) (h1 : a ≤ b) (h2 : 0 < d) (h3 : d ≤ c) : a / c ≤ b / d := by
  have h4 : a / c ≤ a / d := by
    refine (Int.le_ediv_iff_mul_le h2).mpr ?_
    have h5 : a / c * c ≤ a := Int.ediv_mul_le _ (by omega)
    have h6 : 0 ≤ a / c := Int.ediv_nonneg h0 (by omega)
    have h7 : a / c * d ≤ a / c * c := Int.mul_le_mul_of_nonneg_left h3 h6
    omega
  exact Int.le_trans h4 (Int.ediv_le_ediv h2 h1)
theorem sine_mono {scale u v : Int} (hs : 0 ≤ scale) (h : 0 ≤ u) (h2 : u ≤ v) (h3 : v ≤ 13860) : sineF scale u ≤ sineF scale v := by
  have hb := bow_mono h h2 h3
  have hu := bow_R (u := u) ⟨h, by omega⟩
  have hv := bow_R (u := v) ⟨by omega, by omega⟩
  unfold sineF
  exact ediv_mono2 (Int.mul_nonneg (by omega) hu.1) (Int.mul_le_mul_of_nonneg_left hb (by omega)) (by omega) (by omega)
def chordF (s : Int) : Int := sineF 2000000 s.natAbs
def causF (s : Int) : Int := sineF 1000000 (13860 - s.natAbs)
theorem chord_R {s : Int} (h : -13859 ≤ s ∧ s ≤ 13859) : 0 ≤ chordF s ∧ chordF s ≤ 2000000 := sine_R (by decide) (by omega)
theorem caus_R {s : Int} (h : -13859 ≤ s ∧ s ≤ 13859) : 0 ≤ causF s ∧ causF s ≤ 1000000 := sine_R (by decide) (by omega)
theorem caus_mono {s : Int} (h : 1 ≤ s ∧ s ≤ 13859) : causF s ≤ causF 1 := sine_mono (by decide) (by omega) (by omega) (by omega)
def isStepP (s : Int) : Prop := s ≠ 0 ∧ -13859 ≤ s ∧ s ≤ 13859
theorem isStepP_iff {s : Int} : isStepP s ↔ (s ≠ 0 ∧ -13859 ≤ s ∧ s ≤ 13859) := Iff.rfl
def tiltF (s k : Int) : Int := if (s.natAbs : Int) + k < 1 ∨ 13859 < (s.natAbs : Int) + k then 0 else if 0 < s then (s.natAbs : Int) + k else -((s.natAbs : Int) + k)
theorem tilt_R (s k : Int) : -13859 ≤ tiltF s k ∧ tiltF s k ≤ 13859 := by unfold tiltF; split <;> (try split) <;> omega
/-! the greatest common divisor -/
def gcdF (a : Int) : Int := (Int.gcd 27720 a : Nat)
theorem gcd_pos (a : Int) : 0 < gcdF a := by
  unfold gcdF
  have : 0 < Int.gcd 27720 a := Int.gcd_pos_of_ne_zero_left _ (by decide)
  omega
theorem gcd_dvd (a : Int) : gcdF a ∣ 27720 := Int.gcd_dvd_left ..
theorem gcd_dvd_r (a : Int) : gcdF a ∣ a := Int.gcd_dvd_right ..
theorem gcd_le (a : Int) : gcdF a ≤ 27720 := Int.le_of_dvd (by decide) (gcd_dvd a)
theorem gcd_abs (a : Int) : gcdF (a.natAbs : Int) = gcdF a := by unfold gcdF; rw [Int.gcd, Int.gcd, Int.natAbs_natCast]
/-- the loop of Euclid: what stays -/
def EucI (a d r : Int) : Prop := 0 ≤ r ∧ r ≤ d ∧ 0 < d ∧ d ≤ 27720 ∧ ((Int.gcd d r : Nat) : Int) = gcdF a
theorem euc_0 {a : Int} (h : 0 ≤ a ∧ a ≤ 13859) : EucI a 27720 a := ⟨h.1, by omega, by decide, by decide, rfl⟩
theorem euc_g {d r : Int} (hd : 0 < d) (hr : 0 < r) : Int.gcd r (d % r) = Int.gcd d r := by
  obtain ⟨D, rfl⟩ : ∃ D : Nat, d = (D : Int) := ⟨d.toNat, (Int.toNat_of_nonneg (Int.le_of_lt hd)).symm⟩
  obtain ⟨R, rfl⟩ : ∃ R : Nat, r = (R : Int) := ⟨r.toNat, (Int.toNat_of_nonneg (Int.le_of_lt hr)).symm⟩
  show Nat.gcd _ _ = Nat.gcd _ _
  rw [← Int.natCast_emod, Int.natAbs_natCast, Int.natAbs_natCast, Int.natAbs_natCast, Nat.gcd_comm D R, Nat.gcd_rec R D, Nat.gcd_comm]
theorem euc_s {a d r : Int} (h : EucI a d r) (hr : 0 < r) : EucI a r (d % r) := by
  obtain ⟨h1, h2, h3, h4, h6⟩ := h
  have a1 := Int.emod_nonneg d (Int.ne_of_gt hr)
  have a2 := Int.emod_lt_of_pos d hr
  exact ⟨a1, by omega, hr, by omega, by rw [← h6, euc_g h3 hr]⟩
theorem euc_e {a d r : Int} (h : EucI a d r) (hr : r = 0) : d = gcdF a := by
  obtain ⟨h1, h2, h3, h4, h6⟩ := h
  rw [← h6, hr, Int.gcd_zero_right]
  omega
theorem euc_p {d r : Int} (n : Nat) (hr : 0 < r) (h2 : r ≤ d) (h : d * r * 2 ^ n ≤ 768398400) : r * (d % r) * 2 ^ (n + 1) ≤ 768398400 := by
  have a1 := Int.emod_nonneg d (Int.ne_of_gt hr)
  have e1 : r * (d / r) + d % r = d := Int.mul_ediv_add_emod d r
  have a2 := Int.emod_lt_of_pos d hr
  have h3 : 1 ≤ d / r := (Int.le_ediv_iff_mul_le hr).mpr (by omega)
  have h4 : r * 1 ≤ r * (d / r) := Int.mul_le_mul_of_nonneg_left h3 (by omega)
  have h5 : r * (2 * (d % r)) ≤ r * d := Int.mul_le_mul_of_nonneg_left (by omega) (by omega)
  have h6 : r * (d % r) * 2 ^ (n + 1) = r * (2 * (d % r)) * 2 ^ n := by
    rw [Int.pow_succ, Int.mul_left_comm r 2, Int.mul_comm 2 (r * (d % r)), Int.mul_assoc (r * (d % r)), Int.mul_comm 2]
  rw [h6]
  refine Int.le_trans (Int.mul_le_mul_of_nonneg_right h5 ?_) (by rw [Int.mul_comm r d]; exact h)
  exact Int.le_of_lt (Int.pow_pos (by decide))
theorem euc_end {d r : Int} (hr : 0 ≤ r) (h2 : r ≤ d) (hd : 0 < d) (h : d * r * 2 ^ 100 ≤ 768398400) : r = 0 := by
  by_cases h0 : r = 0
  · exact h0
  · have h1 : 0 < d * r := Int.mul_pos hd (by omega)
    have h3 : (1 : Int) * 2 ^ 100 ≤ d * r * 2 ^ 100 := Int.mul_le_mul_of_nonneg_right (by omega) (by decide)
    exact absurd (Int.le_trans h3 h) (by decide)
/-! aims -/
def AimS (d c s : Int) : Prop := isStepP s ∧ ∃ k : Int, c * s = d + 27720 * k
def AimB (r s : Int) : Prop := r.natAbs < s.natAbs ∨ (r.natAbs = s.natAbs ∧ (r = s ∨ 0 < r))
def AimR (d c r : Int) : Prop := (r = 0 ∧ ∀ s, ¬ AimS d c s) ∨ (AimS d c r ∧ ∀ s, AimS d c s → AimB r s)
theorem AimR_uniq {d c r1 r2 : Int} (h1 : AimR d c r1) (h2 : AimR d c r2) : r1 = r2 := by
  rcases h1 with ⟨a, b⟩ | ⟨a, b⟩ <;> rcases h2 with ⟨a', b'⟩ | ⟨a', b'⟩
  · omega
  · exact absurd a' (b r2)
  · exact absurd a (b' r1)
  · have x := b r2 a'
    have y := b' r1 a
    have z := a.1
    unfold AimB at x y
    omega
noncomputable def aimF (d c : Int) : Int := Classical.epsilon (AimR d c)
theorem aimF_eq {d c r : Int} (h : AimR d c r) : aimF d c = r := AimR_uniq (Classical.epsilon_spec (p := AimR d c) ⟨r, h⟩) h
def AimU (d c a b : Int) : Prop := (b = 0 ∧ ∀ s k : Int, k < a → isStepP s → c * s = d + 27720 * k → False) ∨ (isStepP b ∧ (∃ k : Int, c * b = d + 27720 * k) ∧ ∀ s k : Int, k < a → isStepP s → c * s = d + 27720 * k → AimB b s)
theorem tmod_s (a b : Int) (hb : 0 < b) : ((a.tmod b = a % b ∧ (0 ≤ a ∨ a % b = 0)) ∨ (a < 0 ∧ a % b ≠ 0 ∧ a.tmod b = a % b - b)) ∧ 0 ≤ a % b ∧ a % b < b := by
  refine ⟨?_, Int.emod_nonneg a (Int.ne_of_gt hb), Int.emod_lt_of_pos a hb⟩
  have e := Int.tmod_eq_emod (a := a) (b := b)
  have e1 : (b.natAbs : Int) = b := by omega
  by_cases h : 0 ≤ a
  · exact Or.inl ⟨Int.tmod_eq_emod_of_nonneg h, Or.inl h⟩
  · by_cases h0 : a % b = 0
    · have : b ∣ a := Int.dvd_of_emod_eq_zero h0
      rw [if_pos (Or.inr this)] at e
      exact Or.inl ⟨by omega, Or.inr h0⟩
    · have : ¬ b ∣ a := fun q => h0 (Int.emod_eq_zero_of_dvd q)
      rw [if_neg (fun q => q.elim h this)] at e
      exact Or.inr ⟨by omega, h0, by omega⟩
theorem euc_end2 {a d r i : Int} (hE : EucI a d r) (hi : i = 100) (h : d * r * 2 ^ i.toNat ≤ 768398400) : d = gcdF a := by
  rw [hi, show (100 : Int).toNat = 100 from rfl] at h
  exact euc_e hE (euc_end hE.1 hE.2.1 hE.2.2.1 h)
