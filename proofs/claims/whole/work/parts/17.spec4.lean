/-! what the shot does -/
def bgM (m : Int) : Int := if m < 100 then m + 1 else m
def bgZ (f : Int → Int) (m x : Int) : Int → Int := if m < 100 then zup f m x else f
def refO (ra : Int → Nat) (b : Int) : Value := if b = -1 then .null else .ref (ra b)
theorem refO_n {ra : Int → Nat} {b : Int} (h : b = -1) : refO ra b = .null := if_pos h
theorem refO_r {ra : Int → Nat} {b : Int} (h : ¬ b = -1) : refO ra b = .ref (ra b) := if_neg h
def erlF (T U : Int → Int) : Nat → Int
  | 0 => -1
  | k + 1 => if ¬ U (k : Int) = 0 ∧ (erlF T U k = -1 ∨ T (k : Int) < T (erlF T U k)) then (k : Int) else erlF T U k
theorem erl_R (T U : Int → Int) : ∀ k : Nat, -1 ≤ erlF T U k ∧ erlF T U k < k
  | 0 => by
    unfold erlF
    omega
  | k + 1 => by
    have := erl_R T U k
    unfold erlF
    split <;> omega
theorem erl_s {T U : Int → Int} {i : Int} (h : 0 ≤ i) : erlF T U (i + 1).toNat = if ¬ U i = 0 ∧ (erlF T U i.toNat = -1 ∨ T i < T (erlF T U i.toNat)) then i else erlF T U i.toNat := by
  rw [show (i + 1).toNat = i.toNat + 1 by omega, erlF, Int.toNat_of_nonneg h]
theorem pokO2 {a0 : Option Value} {ra : Int → Nat} {b : Int} {t : List (Option Value)} : pok (a0 :: some (refO ra b) :: t) 2 = true := by
  unfold refO
  split <;> rfl
