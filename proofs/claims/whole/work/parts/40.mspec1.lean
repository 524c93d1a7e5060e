/-! the reference: its wall and its past -/
def shF (f : Int → Int) (s k : Int) : Int → Int := fun j => if 0 ≤ j ∧ j < k then f (j + s) else f j
theorem shF_0 {f : Int → Int} {s : Int} : shF f s 0 = f := by
  funext j
  unfold shF
  rw [if_neg (by omega)]
theorem shF_s {f : Int → Int} {s k : Int} (hs : 0 < s) (hk : 0 ≤ k) : zup (shF f s k) k (shF f s k (k + s)) = shF f s (k + 1) := by
  funext j
  unfold zup shF
  by_cases h : j = k
  · rw [if_pos h, if_neg (show ¬ (0 ≤ k + s ∧ k + s < k) by omega), if_pos (by omega), h]
  · rw [if_neg h]
    by_cases h2 : 0 ≤ j ∧ j < k
    · rw [if_pos h2, if_pos (by omega)]
    · rw [if_neg h2, if_neg (by omega)]
/-- one more of a copy -/
theorem cpy_s {f g : Int → Int} {s d k : Int} (hk : 0 ≤ k) : zup (cpyF f g s d k) (d + k) (f (s + k)) = cpyF f g s d (k + 1) := by
  funext j
  unfold zup cpyF
  by_cases h : j = d + k
  · rw [if_pos h, if_pos (by omega), show s + (j - d) = s + k by omega]
  · rw [if_neg h]
    by_cases h2 : d ≤ j ∧ j < d + k
    · rw [if_pos h2, if_pos (by omega)]
    · rw [if_neg h2, if_neg (by omega)]
theorem cpy_n {f g : Int → Int} {s d : Int} : cpyF f g s d 0 = g := by
  funext j
  unfold cpyF
  rw [if_neg (by omega)]
def aM (pm : Int) : Int := if pm = 5 then 4 else pm
def aP0 (pp : Int → Int) (pm : Int) : Int → Int := if pm = 5 then shF pp 60 240 else pp
def aP (vv pp : Int → Int) (pm : Int) : Int → Int := cpyF vv (aP0 pp pm) 0 (60 * aM pm) 60
def adF (vv : Int → Int) (k p m q : Int) : Int → Int := zup (zup (zup (zup (zup vv (4 + 4 * vv 0) k) (4 + 4 * vv 0 + 1) p) (4 + 4 * vv 0 + 2) m) (4 + 4 * vv 0 + 3) q) 0 (vv 0 + 1)
/-- the numbers from a on, four places to the left -/
def shL (f : Int → Int) (a b : Int) : Int → Int := fun j => if a ≤ j ∧ j < b then f (j + 4) else f j
theorem shL_0 {f : Int → Int} {a : Int} : shL f a a = f := by
  funext j
  unfold shL
  rw [if_neg (by omega)]
theorem shL_s {f : Int → Int} {a k : Int} (hk : a ≤ k) : zup (shL f a k) k (shL f a k (k + 4)) = shL f a (k + 1) := by
  funext j
  unfold zup shL
  by_cases h : j = k
  · rw [if_pos h, if_neg (show ¬ (a ≤ k + 4 ∧ k + 4 < k) by omega), if_pos (by omega), h]
  · rw [if_neg h]
    by_cases h2 : a ≤ j ∧ j < k
    · rw [if_pos h2, if_pos (by omega)]
    · rw [if_neg h2, if_neg (by omega)]
abbrev numP (kind k : Int) : Prop := (kind = 0 ∧ 0 ≤ k ∧ k ≤ 1000) ∨ ((kind = 2 ∨ kind = 3) ∧ -9999 ≤ k ∧ k ≤ 9999) ∨ (kind ≠ 0 ∧ kind ≠ 2 ∧ kind ≠ 3 ∧ k = 0)
theorem bZ_iff {P R : Prop} [Decidable P] [Decidable R] (h : P ↔ R) : bZ P = bZ R := by
  unfold bZ
  by_cases hp : P
  · rw [if_pos hp, if_pos (h.mp hp)]
  · rw [if_neg hp, if_neg (fun q => hp (h.mpr q))]
