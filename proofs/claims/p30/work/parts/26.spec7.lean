/-! what the text keeps -/
def ChOK (ch : Int → Int) (len : Int) : Prop := (0 ≤ len ∧ len ≤ 60) ∧ ∀ j, 0 ≤ j → j < len → 32 ≤ ch j ∧ ch j ≤ 126
