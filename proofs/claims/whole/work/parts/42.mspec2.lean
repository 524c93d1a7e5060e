/-! the reference: more of the wall; its search of aims -/
theorem allow_num {k p m q : Int} : allowP k p m q ↔ (0 ≤ k ∧ k ≤ 4) ∧ (0 ≤ p ∧ p ≤ 27719) ∧ (1 ≤ m ∧ m ≤ 27720) ∧ numP k q := by
  unfold allowP numP leastF mostF
  by_cases h2 : k = 2 ∨ k = 3
  · rw [if_pos h2, if_pos h2]; omega
  · rw [if_neg h2, if_neg h2]
    by_cases h0 : k = 0
    · rw [if_pos h0]; omega
    · rw [if_neg h0]; omega
def vF (vv : Int → Int) : Int → Int := fun i => vv (4 + i)
theorem vF_k {vv : Int → Int} {i : Int} : vv (4 + 4 * i + 3) = vF vv (i * 4 + 3) := congrArg vv (by omega)
theorem vF_0 {vv : Int → Int} {i : Int} : vv (4 + 4 * i) = vF vv (i * 4 + 0) := congrArg vv (by omega)
theorem vF_1 {vv : Int → Int} {i : Int} : vv (4 + 4 * i + 1) = vF vv (i * 4 + 1) := congrArg vv (by omega)
theorem vF_2 {vv : Int → Int} {i : Int} : vv (4 + 4 * i + 2) = vF vv (i * 4 + 2) := congrArg vv (by omega)
def undF (vv pp : Int → Int) (pm : Int) : Int → Int := cpyF pp vv (60 * (pm - 1)) 0 60
theorem shL_lo {f : Int → Int} {a b : Int} (h : 0 < a) : shL f a b 0 = f 0 := by
  unfold shL
  rw [if_neg (by omega)]
def rmF (vv : Int → Int) (k : Int) : Int → Int := shL (zup vv 0 (vv 0 - 1)) (4 + 4 * k) (4 + 4 * (vv 0 - 1))
