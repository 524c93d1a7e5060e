/-! THE LAYER: numbers are integers, a frame is three lists, one judgement V over a context K; a contract is Ctr. -/
theorem iZ_add (a b : Int) : iZ a + iZ b = iZ (a + b) := (Int32.ofInt_add ..).symm
theorem iZ_sub (a b : Int) : iZ a - iZ b = iZ (a - b) := (Int32.ofInt_sub ..).symm
theorem iZ_mul (a b : Int) : iZ a * iZ b = iZ (a * b) := (Int32.ofInt_mul ..).symm
theorem iZ_neg (a : Int) : - iZ a = iZ (-a) := (Int32.ofInt_neg ..).symm
theorem lZ_add (a b : Int) : lZ a + lZ b = lZ (a + b) := (Int64.ofInt_add ..).symm
theorem lZ_sub (a b : Int) : lZ a - lZ b = lZ (a - b) := (Int64.ofInt_sub ..).symm
theorem lZ_mul (a b : Int) : lZ a * lZ b = lZ (a * b) := (Int64.ofInt_mul ..).symm
theorem lZ_neg (a : Int) : - lZ a = lZ (-a) := (Int64.ofInt_neg ..).symm
abbrev R32 (a : Int) : Prop := -2147483648 ≤ a ∧ a < 2147483648
abbrev R64 (a : Int) : Prop := -9223372036854775808 ≤ a ∧ a < 9223372036854775808
theorem iZ_toInt {a : Int} (h : R32 a) : (iZ a).toInt = a := by
  unfold iZ
  rw [Int32.toInt_ofInt]
  show Int.bmod a 4294967296 = a
  exact Int.bmod_eq_of_le (by have := h.1; omega) (by have := h.2; omega)
theorem lZ_toInt {a : Int} (h : R64 a) : (lZ a).toInt = a := by
  unfold lZ
  rw [Int64.toInt_ofInt]
  show Int.bmod a 18446744073709551616 = a
  exact Int.bmod_eq_of_le (by have := h.1; omega) (by have := h.2; omega)
theorem iZ_R (x : Int32) : R32 x.toInt := ⟨by have := Int32.le_toInt x; omega, by have := Int32.toInt_lt x; omega⟩
theorem lZ_R (x : Int64) : R64 x.toInt := ⟨by have := Int64.le_toInt x; omega, by have := Int64.toInt_lt x; omega⟩
theorem iZ_of (x : Int32) : iZ x.toInt = x := Int32.ofInt_toInt x
theorem lZ_of (x : Int64) : lZ x.toInt = x := Int64.ofInt_toInt x
theorem iZ_ex (x : Int32) : ∃ z : Int, R32 z ∧ x = iZ z := ⟨x.toInt, iZ_R x, (iZ_of x).symm⟩
theorem lZ_ex (x : Int64) : ∃ z : Int, R64 z ∧ x = lZ z := ⟨x.toInt, lZ_R x, (lZ_of x).symm⟩
theorem iZ_eq {a b : Int} (ha : R32 a) (hb : R32 b) : iZ a = iZ b ↔ a = b := ⟨fun h => by rw [← iZ_toInt ha, ← iZ_toInt hb, h], fun h => by rw [h]⟩
theorem iZ_lt {a b : Int} (ha : R32 a) (hb : R32 b) : iZ a < iZ b ↔ a < b := by rw [Int32.lt_iff_toInt_lt, iZ_toInt ha, iZ_toInt hb]
theorem iZ_le {a b : Int} (ha : R32 a) (hb : R32 b) : iZ a ≤ iZ b ↔ a ≤ b := by rw [Int32.le_iff_toInt_le, iZ_toInt ha, iZ_toInt hb]
theorem lZ_eq {a b : Int} (ha : R64 a) (hb : R64 b) : lZ a = lZ b ↔ a = b := ⟨fun h => by rw [← lZ_toInt ha, ← lZ_toInt hb, h], fun h => by rw [h]⟩
theorem lZ_lt {a b : Int} (ha : R64 a) (hb : R64 b) : lZ a < lZ b ↔ a < b := by rw [Int64.lt_iff_toInt_lt, lZ_toInt ha, lZ_toInt hb]
theorem lZ_le {a b : Int} (ha : R64 a) (hb : R64 b) : lZ a ≤ lZ b ↔ a ≤ b := by rw [Int64.le_iff_toInt_le, lZ_toInt ha, lZ_toInt hb]
theorem iZ_0 : iZ 0 = 0 := by decide +kernel
theorem lZ_0 : lZ 0 = 0 := by decide +kernel
theorem iZ_bi {n : Int} (h : -128 ≤ n ∧ n < 128) : (Int8.ofInt n).toInt32 = iZ n := by
  apply Int32.toInt_inj.mp
  rw [Int8.toInt_toInt32, iZ_toInt ⟨by omega, by omega⟩, Int8.toInt_ofInt]
  show Int.bmod n 256 = n
  exact Int.bmod_eq_of_le (by omega) (by omega)
theorem iZ_si {n : Int} (h : -32768 ≤ n ∧ n < 32768) : (Int16.ofInt n).toInt32 = iZ n := by
  apply Int32.toInt_inj.mp
  rw [Int16.toInt_toInt32, iZ_toInt ⟨by omega, by omega⟩, Int16.toInt_ofInt]
  show Int.bmod n 65536 = n
  exact Int.bmod_eq_of_le (by omega) (by omega)
theorem iZ_nI (n : Nat) : Int32.ofNat n = iZ n := by unfold iZ; rfl
theorem iZ_i2l {a : Int} (h : R32 a) : (iZ a).toInt64 = lZ a := by
  apply Int64.toInt_inj.mp
  rw [Int32.toInt_toInt64, iZ_toInt h, lZ_toInt ⟨by have := h.1; omega, by have := h.2; omega⟩]
theorem lZ_l2i (a : Int) : (lZ a).toInt32 = iZ a := by
  apply Int32.toInt_inj.mp
  unfold lZ iZ
  rw [Int64.toInt_toInt32, Int64.toInt_ofInt, Int32.toInt_ofInt]
  exact Int.bmod_bmod_of_dvd (by decide)
theorem iZ_div {a b : Int} (ha : R32 a) (hb : R32 b) (h0 : 0 < b) : iZ a / iZ b = iZ (a.tdiv b) := by
  apply Int32.toInt_inj.mp
  have h1 : R32 (a.tdiv b) := by
    have h2 := Int.natAbs_tdiv_le_natAbs a b
    have := ha.1; have := ha.2
    by_cases h3 : 0 ≤ a
    · have := Int.tdiv_nonneg h3 (Int.le_of_lt h0)
      exact ⟨by omega, by omega⟩
    · exact ⟨by omega, by
        have h4 := Int.tdiv_nonneg (a := -a) (b := b) (by omega) (Int.le_of_lt h0)
        rw [Int.neg_tdiv] at h4
        omega⟩
  rw [Int32.toInt_div, iZ_toInt ha, iZ_toInt hb, iZ_toInt h1]
  exact Int.bmod_eq_of_le (by have := h1.1; omega) (by have := h1.2; omega)
theorem iZ_ne0 {b : Int} (hb : R32 b) (h : 0 < b) : ¬ iZ b = 0 := by
  rw [← iZ_0, iZ_eq hb (by decide)]; omega
theorem lZ_ne0 {b : Int} (hb : R64 b) (h : 0 < b) : ¬ lZ b = 0 := by
  rw [← lZ_0, lZ_eq hb (by decide)]; omega
theorem lZ_div {a b : Int} (ha : R64 a) (hb : R64 b) (h0 : 0 < b) : lZ a / lZ b = lZ (a.tdiv b) := by
  apply Int64.toInt_inj.mp
  have h1 : R64 (a.tdiv b) := by
    have h2 := Int.natAbs_tdiv_le_natAbs a b
    have := ha.1; have := ha.2
    by_cases h3 : 0 ≤ a
    · have := Int.tdiv_nonneg h3 (Int.le_of_lt h0)
      exact ⟨by omega, by omega⟩
    · exact ⟨by omega, by
        have h4 := Int.tdiv_nonneg (a := -a) (b := b) (by omega) (Int.le_of_lt h0)
        rw [Int.neg_tdiv] at h4
        omega⟩
  rw [Int64.toInt_div, lZ_toInt ha, lZ_toInt hb, lZ_toInt h1]
  exact Int.bmod_eq_of_le (by have := h1.1; omega) (by have := h1.2; omega)
theorem iZ_rem {a b : Int} (ha : R32 a) (hb : R32 b) (h0 : 0 < b) : iZ a - iZ a / iZ b * iZ b = iZ (a.tmod b) := by
  rw [iZ_div ha hb h0, iZ_mul, iZ_sub, Int.tmod_def, Int.mul_comm b]
theorem lZ_rem {a b : Int} (ha : R64 a) (hb : R64 b) (h0 : 0 < b) : lZ a - lZ a / lZ b * lZ b = lZ (a.tmod b) := by
  rw [lZ_div ha hb h0, lZ_mul, lZ_sub, Int.tmod_def, Int.mul_comm b]
