/-! a part of the text, and the whole text -/
abbrev FS : Type := Int × (Int → Int)
def apC (n : Int) : Int := if n < 12 then n + 1 else n
def apF (f : Int → Int) (n k a m b : Int) : Int → Int := if n < 12 then appF f n k a m b else f
abbrev hasBP (k : Int) : Prop := k = 0 ∨ k = 2 ∨ k = 3
abbrev mayP (k : Int) : Prop := k = 2 ∨ k = 3
/-- the numbers of a part: kind, first place, places, k; and where the reader stands then -/
def roN (ch : Int → Int) (len : Int) (t : TS) : (Int × Int × Int × Int) × TS :=
  let w := twF ch len t
  let x := tnF ch len 0 27719 0 (tkF ch len 58 w.2)
  let y := tnF ch len 1 27720 0 (tkF ch len 43 x.2)
  if hasBP w.1 then
    let z := tnF ch len (leastF w.1) (mostF w.1) (bZ (mayP w.1)) (tkF ch len 44 y.2)
    ((w.1, x.1, y.1, z.1), z.2)
  else ((w.1, x.1, y.1, 0), y.2)
def roP (t : TS) : Prop := t.2.1 = 0 ∧ t.2.2 < 0
def roF (q : (Int × Int × Int × Int) × TS) (s : FS) : FS := if q.2.2.1 = 0 ∧ q.2.2.2 < 0 then (apC s.1, apF s.2 s.1 q.1.1 q.1.2.1 q.1.2.2.1 q.1.2.2.2) else s
def reX (ch : Int → Int) (len : Int) (x : TS × FS) : TS × FS := ((roN ch len x.1).2, roF (roN ch len x.1) x.2)
theorem ro_I {ch : Int → Int} {len : Int} {t : TS} (hc : ChOK ch len) (h : TI len t) : TI len (roN ch len t).2 := by
  have a1 := tw_I hc h
  have a2 := tn_I (lo := 0) (hi := 27719) (neg := 0) hc (tk_I (x := 58) hc (by decide) a1.1)
  have a3 := tn_I (lo := 1) (hi := 27720) (neg := 0) hc (tk_I (x := 43) hc (by decide) a2.1)
  unfold roN
  dsimp only
  split
  · exact (tn_I hc (tk_I (x := 44) hc (by decide) a3.1)).1
  · exact a3.1
/-- after the first part: ';' and a part, as long as there are signs -/
def errI (ch : Int → Int) (len : Int) : Nat → TS × FS → TS × FS
  | 0, x => x
  | n + 1, x => if x.1.2.1 = 0 ∧ x.1.1 < len then errI ch len n (reX ch len (tkF ch len 59 x.1, x.2)) else x
def errX (ch : Int → Int) (len : Int) (g : Int → Int) : TS × FS := errI ch len 60 (reX ch len ((0, 0, -1), (0, g)))
def errV (t : TS) : Int := if t.2.1 = 0 then t.2.2 else t.1
theorem err_I {ch : Int → Int} {len : Int} (hc : ChOK ch len) : ∀ (n : Nat) (x : TS × FS), TI len x.1 → TI len (errI ch len n x).1
  | 0, _, h => h
  | n + 1, x, h => by
    unfold errI
    split
    · exact err_I hc n _ (ro_I hc (tk_I hc (by decide) h))
    · exact h
theorem errI_e {ch : Int → Int} {len : Int} {x : TS × FS} (n : Nat) (h : x.1.2.1 = 0 ∧ x.1.1 < len) : errI ch len (n + 1) x = errI ch len n (reX ch len (tkF ch len 59 x.1, x.2)) := if_pos h
theorem errI_x {ch : Int → Int} {len : Int} {x : TS × FS} (n : Nat) (h : ¬ (x.1.2.1 = 0 ∧ x.1.1 < len)) : errI ch len n x = x := by
  cases n with
  | zero => rfl
  | succ n => exact if_neg h
theorem roF_b {q : (Int × Int × Int × Int) × TS} {s : FS} (h : 0 ≤ s.1 ∧ s.1 ≤ 12) : 0 ≤ (roF q s).1 ∧ (roF q s).1 ≤ 12 := by
  unfold roF apC
  split
  · dsimp only
    split <;> omega
  · exact h
