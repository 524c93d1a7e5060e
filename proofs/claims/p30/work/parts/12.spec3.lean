/-! what the numbers are: rays, the log, ears, the path -/
def noteF (f : Int → Int) (h i p t e s : Int) : Int → Int := zup (zup (zup (zup (zup f (h * 5) i) (h * 5 + 1) p) (h * 5 + 2) t) (h * 5 + 3) e) (h * 5 + 4) s
def numL (h : Int) (f : Int → Int) (i w : Int) : Int := if 0 ≤ i ∧ i < h ∧ 0 ≤ w ∧ w < 5 then f (i * 5 + w) else -100001
def echoNew (ec : Int) (Ec : Int → Int) (h : Int) : Prop := ¬ (0 < ec ∧ Ec (ec - 1) = h - 1) ∧ ec < 600
noncomputable def eC (ec : Int) (Ec : Int → Int) (h : Int) : Int := by classical exact if echoNew ec Ec h then ec + 1 else ec
noncomputable def eF (ec : Int) (Ec : Int → Int) (h : Int) : Int → Int := by classical exact if echoNew ec Ec h then zup Ec ec (h - 1) else Ec
theorem eC_t {ec : Int} {Ec : Int → Int} {h : Int} (x : echoNew ec Ec h) : eC ec Ec h = ec + 1 ∧ eF ec Ec h = zup Ec ec (h - 1) := ⟨if_pos x, if_pos x⟩
theorem eC_f {ec : Int} {Ec : Int → Int} {h : Int} (x : ¬ echoNew ec Ec h) : eC ec Ec h = ec ∧ eF ec Ec h = Ec := ⟨if_neg x, if_neg x⟩
def echoF (ec : Int) (Ec : Int → Int) (i : Int) : Int := if i < 0 then -100001 else if i < ec then Ec i else -100009
def ear0 (A : Int → Int) (k : Int) : Int → Int := fun j => if 0 ≤ j ∧ j < k * 4 then (if j % 4 = 2 then -100009 else 0) else A j
theorem ear0_0 (A : Int → Int) : ear0 A 0 = A := by
  funext j
  unfold ear0
  rw [if_neg (by omega)]
theorem ear0_s {A : Int → Int} {k : Int} (h : 0 ≤ k) : zup (zup (zup (zup (ear0 A k) (k * 4) 0) (k * 4 + 1) 0) (k * 4 + 2) (-100009)) (k * 4 + 3) 0 = ear0 A (k + 1) := by
  funext j
  unfold zup ear0
  by_cases h3 : j = k * 4 + 3
  · rw [if_pos h3, if_pos (by omega), if_neg (by omega)]
  · rw [if_neg h3]
    by_cases h2 : j = k * 4 + 2
    · rw [if_pos h2, if_pos (by omega), if_pos (by omega)]
    · rw [if_neg h2]
      by_cases h1 : j = k * 4 + 1
      · rw [if_pos h1, if_pos (by omega), if_neg (by omega)]
      · rw [if_neg h1]
        by_cases h0 : j = k * 4
        · rw [if_pos h0, if_pos (by omega), if_neg (by omega)]
        · rw [if_neg h0]
          by_cases hc : 0 ≤ j ∧ j < k * 4
          · rw [if_pos hc, if_pos (show 0 ≤ j ∧ j < (k + 1) * 4 by omega)]
          · rw [if_neg hc, if_neg (by omega)]
def hear1 (A : Int → Int) (p t : Int) : Int → Int := if A (p * 4) = 0 then zup A (p * 4 + 2) t else A
def hearF (A : Int → Int) (p t e : Int) : Int → Int := zup (zup (zup (hear1 A p t) (p * 4) (A (p * 4) + 1)) (p * 4 + 1) (A (p * 4 + 1) + e)) (p * 4 + 3) (max (A (p * 4 + 3)) e)
theorem hear1_n {A : Int → Int} {p t j : Int} (h : j ≠ p * 4 + 2) : hear1 A p t j = A j := by
  unfold hear1
  split
  · exact zup_n h
  · rfl
def earL (A : Int → Int) (p w : Int) : Int := if 0 ≤ p ∧ p < 12 ∧ 0 ≤ w ∧ w < 4 then A (p * 4 + w) else -100001
def goC (c : Int) : Int := if c < 201 then c + 1 else c
def goF (Cn : Int → Int) (c p : Int) : Int → Int := if c < 201 then zup Cn c p else Cn
abbrev btwP (l x h : Int) : Prop := l < x ∧ x < h
abbrev beyP (l x h : Int) : Prop := x < l ∨ h < x
abbrev crossP (a b c d : Int) : Prop := (btwP (min a b) c (max a b) ∧ beyP (min a b) d (max a b)) ∨ (beyP (min a b) c (max a b) ∧ btwP (min a b) d (max a b))
def sumR (g : Int → Int) (a : Int) : Nat → Int
  | 0 => 0
  | k + 1 => sumR g a k + g (a + (k : Int))
def pairI (Cn : Int → Int) (i j : Int) : Int := bZ (crossP (Cn (i - 1)) (Cn i) (Cn (j - 1)) (Cn j))
def pairJ (Cn : Int → Int) (e i : Int) : Int := sumR (pairI Cn i) (i + 1) (e - 1 - i).toNat
def pairsF (Cn : Int → Int) (e : Int) : Int := sumR (pairJ Cn e) 1 (e - 1).toNat
theorem sumR_s (g : Int → Int) (a : Int) {i : Int} (h : a ≤ i) : sumR g a (i + 1 - a).toNat = sumR g a (i - a).toNat + g i := by
  rw [show (i + 1 - a).toNat = (i - a).toNat + 1 by omega]
  show sumR g a (i - a).toNat + g (a + ((i - a).toNat : Int)) = _
  rw [show a + ((i - a).toNat : Int) = i by omega]
theorem sumR_b {g : Int → Int} {a M : Int} (hg : ∀ i, 0 ≤ g i ∧ g i ≤ M) : ∀ k : Nat, 0 ≤ sumR g a k ∧ sumR g a k ≤ M * k
  | 0 => ⟨Int.le_refl _, by simp [sumR]⟩
  | k + 1 => by
    have h1 := sumR_b (a := a) hg k
    have h2 := hg (a + (k : Int))
    unfold sumR
    refine ⟨by omega, ?_⟩
    have : M * ((k + 1 : Nat) : Int) = M * k + M := by
      rw [Int.natCast_succ, Int.mul_add, Int.mul_one]
    omega
theorem pairI_b (Cn : Int → Int) (i j : Int) : 0 ≤ pairI Cn i j ∧ pairI Cn i j ≤ 1 := by
  unfold pairI
  rcases bZ_01 (P := crossP (Cn (i - 1)) (Cn i) (Cn (j - 1)) (Cn j)) with h | h <;> rw [h] <;> decide
