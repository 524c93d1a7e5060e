/-! what the numbers are: parts, walls, history -/
def leastF (kind : Int) : Int := if kind = 2 ∨ kind = 3 then -9999 else 0
def mostF (kind : Int) : Int := if kind = 2 ∨ kind = 3 then 9999 else if kind = 0 then 1000 else 0
theorem least_R (kind : Int) : -9999 ≤ leastF kind ∧ leastF kind ≤ 0 := by unfold leastF; split <;> omega
theorem most_R (kind : Int) : 0 ≤ mostF kind ∧ mostF kind ≤ 9999 := by unfold mostF; split <;> (try split) <;> omega
abbrev allowP (kind first many k : Int) : Prop := (0 ≤ kind ∧ kind ≤ 4) ∧ (0 ≤ first ∧ first < 27720) ∧ (1 ≤ many ∧ many ≤ 27720) ∧ leastF kind ≤ k ∧ k ≤ mostF kind
def numF (n : Int) (f : Int → Int) (part what : Int) : Int := if 0 ≤ part ∧ part < n ∧ 0 ≤ what ∧ what < 4 then f (part * 4 + what) else -100001
def appF (f : Int → Int) (n k a m b : Int) : Int → Int := zup (zup (zup (zup f (n * 4 + 0) k) (n * 4 + 1) a) (n * 4 + 2) m) (n * 4 + 3) b
theorem app_cpy {f g : Int → Int} {n i : Int} (h : 0 ≤ i) : appF (cpyF g f 0 (n * 4) (i * 4)) (n + i) (g (i * 4 + 0)) (g (i * 4 + 1)) (g (i * 4 + 2)) (g (i * 4 + 3)) = cpyF g f 0 (n * 4) ((i + 1) * 4) := by
  funext j
  unfold appF cpyF zup
  dsimp only
  by_cases h3 : j = (n + i) * 4 + 3
  · rw [if_pos h3, if_pos (by omega), show (0 : Int) + (j - n * 4) = i * 4 + 3 by omega]
  · rw [if_neg h3]
    by_cases h2 : j = (n + i) * 4 + 2
    · rw [if_pos h2, if_pos (by omega), show (0 : Int) + (j - n * 4) = i * 4 + 2 by omega]
    · rw [if_neg h2]
      by_cases h1 : j = (n + i) * 4 + 1
      · rw [if_pos h1, if_pos (by omega), show (0 : Int) + (j - n * 4) = i * 4 + 1 by omega]
      · rw [if_neg h1]
        by_cases h0 : j = (n + i) * 4 + 0
        · rw [if_pos h0, if_pos (by omega), show (0 : Int) + (j - n * 4) = i * 4 + 0 by omega]
        · rw [if_neg h0]
          by_cases hc : n * 4 ≤ j ∧ j < n * 4 + i * 4
          · rw [if_pos hc, if_pos (by omega)]
          · rw [if_neg hc, if_neg (by omega)]
theorem cpy_0 {f g : Int → Int} {n : Int} : cpyF g f 0 n (0 * 4) = f := by
  funext j
  unfold cpyF
  rw [if_neg (by omega)]
/-! the five walls of the history -/
def arr5 (w : Nat → Nat) : Nat → Option Nat := fun j => if j < 5 then some (w j) else none
def rot5 {α : Type} (g : Nat → α) : Nat → α := fun i => g ((i + 1) % 5)
def up1 {α : Type} (g : Nat → α) (c : Int) (x : α) : Nat → α := fun i => if (i : Int) = c then x else g i
def rk {α : Type} (g : Nat → α) (c : Int) : Nat → α := if c = 5 then rot5 g else g
def kp {α : Type} (g : Nat → α) (c : Int) (x : α) : Nat → α := if c = 5 then up1 (rot5 g) 4 x else up1 g c x
def kc (c : Int) : Int := if c = 5 then 5 else c + 1
theorem rot_arr (w : Nat → Nat) : va_up (va_up (va_up (va_up (va_up (arr5 w) 0 (some (w 1))) 1 (some (w 2))) 2 (some (w 3))) 3 (some (w 4))) 4 (some (w 0)) = arr5 (rot5 w) := by
  funext j
  match j with
  | 0 => rfl
  | 1 => rfl
  | 2 => rfl
  | 3 => rfl
  | 4 => rfl
  | n + 5 =>
    simp only [va_up, arr5]
    rw [if_neg (by omega), if_neg (by omega), if_neg (by omega), if_neg (by omega), if_neg (by omega), if_neg (by omega), if_neg (by omega)]
def oldF (F : Nat → Int → Int) (c : Int) : Int → Int := if c = 5 then F 0 else F c.toNat
