/-! the reference: its reader -/
def sgM (z : Int) : Int := if z = 0 then -1 else z
theorem sgM_sp (z : Int) : (z = 0 ∧ sgM z = -1) ∨ (z ≠ 0 ∧ sgM z = z) := by unfold sgM; split <;> omega
def tk1 (ch : Int → Int) (len c a : Int) : Int := if sgF ch len a = c then a + 1 else a
theorem tk1_y {ch : Int → Int} {len c a : Int} (h : sgF ch len a = c) : tk1 ch len c a = a + 1 := if_pos h
theorem tk1_n {ch : Int → Int} {len c a : Int} (h : ¬ sgF ch len a = c) : tk1 ch len c a = a := if_neg h
def f4F (ch : Int → Int) (len a c1 c2 c3 c4 : Int) : Int × Int :=
  if sgF ch len a = c1 then (if sgF ch len (a + 1) = c2 then (if sgF ch len (a + 1 + 1) = c3 then (if sgF ch len (a + 1 + 1 + 1) = c4 then (a + 1 + 1 + 1 + 1, 1) else (a + 1 + 1 + 1, 0)) else (a + 1 + 1, 0)) else (a + 1, 0)) else (a, 0)
def f3F (ch : Int → Int) (len a c1 c2 c3 : Int) : Int × Int :=
  if sgF ch len a = c1 then (if sgF ch len (a + 1) = c2 then (if sgF ch len (a + 1 + 1) = c3 then (a + 1 + 1 + 1, 1) else (a + 1 + 1, 0)) else (a + 1, 0)) else (a, 0)
section FOUR
variable {ch : Int → Int} {len a c1 c2 c3 c4 : Int}
theorem f4_a (h1 : ¬ sgF ch len a = c1) : f4F ch len a c1 c2 c3 c4 = (a, 0) := if_neg h1
theorem f4_b (h1 : sgF ch len a = c1) (h2 : ¬ sgF ch len (a + 1) = c2) : f4F ch len a c1 c2 c3 c4 = (a + 1, 0) := by unfold f4F; rw [if_pos h1, if_neg h2]
theorem f4_c (h1 : sgF ch len a = c1) (h2 : sgF ch len (a + 1) = c2) (h3 : ¬ sgF ch len (a + 1 + 1) = c3) : f4F ch len a c1 c2 c3 c4 = (a + 1 + 1, 0) := by unfold f4F; rw [if_pos h1, if_pos h2, if_neg h3]
theorem f4_d (h1 : sgF ch len a = c1) (h2 : sgF ch len (a + 1) = c2) (h3 : sgF ch len (a + 1 + 1) = c3) (h4 : ¬ sgF ch len (a + 1 + 1 + 1) = c4) : f4F ch len a c1 c2 c3 c4 = (a + 1 + 1 + 1, 0) := by unfold f4F; rw [if_pos h1, if_pos h2, if_pos h3, if_neg h4]
theorem f4_e (h1 : sgF ch len a = c1) (h2 : sgF ch len (a + 1) = c2) (h3 : sgF ch len (a + 1 + 1) = c3) (h4 : sgF ch len (a + 1 + 1 + 1) = c4) : f4F ch len a c1 c2 c3 c4 = (a + 1 + 1 + 1 + 1, 1) := by unfold f4F; rw [if_pos h1, if_pos h2, if_pos h3, if_pos h4]
theorem f3_a (h1 : ¬ sgF ch len a = c1) : f3F ch len a c1 c2 c3 = (a, 0) := if_neg h1
theorem f3_b (h1 : sgF ch len a = c1) (h2 : ¬ sgF ch len (a + 1) = c2) : f3F ch len a c1 c2 c3 = (a + 1, 0) := by unfold f3F; rw [if_pos h1, if_neg h2]
theorem f3_c (h1 : sgF ch len a = c1) (h2 : sgF ch len (a + 1) = c2) (h3 : ¬ sgF ch len (a + 1 + 1) = c3) : f3F ch len a c1 c2 c3 = (a + 1 + 1, 0) := by unfold f3F; rw [if_pos h1, if_pos h2, if_neg h3]
theorem f3_d (h1 : sgF ch len a = c1) (h2 : sgF ch len (a + 1) = c2) (h3 : sgF ch len (a + 1 + 1) = c3) : f3F ch len a c1 c2 c3 = (a + 1 + 1 + 1, 1) := by unfold f3F; rw [if_pos h1, if_pos h2, if_pos h3]
theorem f4_R (hc : ChOK ch len) (ha : 0 ≤ a ∧ a ≤ len) (h1 : c1 ≠ 0) (h2 : c2 ≠ 0) (h3 : c3 ≠ 0) (h4 : c4 ≠ 0) : (a ≤ (f4F ch len a c1 c2 c3 c4).1 ∧ (f4F ch len a c1 c2 c3 c4).1 ≤ len) ∧ Z01 (f4F ch len a c1 c2 c3 c4).2 ∧ ((f4F ch len a c1 c2 c3 c4).2 ≠ 0 → (f4F ch len a c1 c2 c3 c4).1 = a + 4) := by
  have s1 := (sg_R hc a).2.2
  have s2 := (sg_R hc (a + 1)).2.2
  have s3 := (sg_R hc (a + 1 + 1)).2.2
  have s4 := (sg_R hc (a + 1 + 1 + 1)).2.2
  unfold f4F
  split
  · split
    · split
      · split
        · exact ⟨by dsimp only; omega, Or.inr rfl, fun _ => by dsimp only; omega⟩
        · exact ⟨by dsimp only; omega, Or.inl rfl, fun q => absurd rfl q⟩
      · exact ⟨by dsimp only; omega, Or.inl rfl, fun q => absurd rfl q⟩
    · exact ⟨by dsimp only; omega, Or.inl rfl, fun q => absurd rfl q⟩
  · exact ⟨by dsimp only; omega, Or.inl rfl, fun q => absurd rfl q⟩
theorem f3_R (hc : ChOK ch len) (ha : 0 ≤ a ∧ a ≤ len) (h1 : c1 ≠ 0) (h2 : c2 ≠ 0) (h3 : c3 ≠ 0) : (a ≤ (f3F ch len a c1 c2 c3).1 ∧ (f3F ch len a c1 c2 c3).1 ≤ len) ∧ Z01 (f3F ch len a c1 c2 c3).2 ∧ ((f3F ch len a c1 c2 c3).2 ≠ 0 → (f3F ch len a c1 c2 c3).1 = a + 3) := by
  have s1 := (sg_R hc a).2.2
  have s2 := (sg_R hc (a + 1)).2.2
  have s3 := (sg_R hc (a + 1 + 1)).2.2
  unfold f3F
  split
  · split
    · split
      · exact ⟨by dsimp only; omega, Or.inr rfl, fun _ => by dsimp only; omega⟩
      · exact ⟨by dsimp only; omega, Or.inl rfl, fun q => absurd rfl q⟩
    · exact ⟨by dsimp only; omega, Or.inl rfl, fun q => absurd rfl q⟩
  · exact ⟨by dsimp only; omega, Or.inl rfl, fun q => absurd rfl q⟩
end FOUR
def wdN (ch : Int → Int) (len a : Int) : Int × Int :=
  if sgF ch len a = 115 then (if sgF ch len (a + 1) = 112 then f4F ch len (a + 1) 112 108 105 116 else f3F ch len (a + 1) 111 97 107)
  else if sgF ch len a = 98 then f4F ch len a 98 97 99 107 else if sgF ch len a = 116 then f4F ch len a 116 105 108 116 else if sgF ch len a = 104 then f4F ch len a 104 101 97 114 else (a, 0)
def wkK (ch : Int → Int) (len a : Int) : Int := if sgF ch len a = 115 then (if sgF ch len (a + 1) = 112 then 3 else 0) else if sgF ch len a = 98 then 1 else if sgF ch len a = 116 then 2 else if sgF ch len a = 104 then 4 else 0
def wdX (ch : Int → Int) (len a : Int) : Int × Int := if (wdN ch len a).2 = 0 then wdN ch len a else if sgF ch len (wdN ch len a).1 = 58 then ((wdN ch len a).1 + 1, 1) else ((wdN ch len a).1, 0)
theorem wk_R (ch : Int → Int) (len a : Int) : 0 ≤ wkK ch len a ∧ wkK ch len a ≤ 4 := by unfold wkK; split <;> (try split) <;> (try split) <;> (try split) <;> omega
theorem wdN_R {ch : Int → Int} {len a : Int} (hc : ChOK ch len) (ha : 0 ≤ a ∧ a ≤ len) : (a ≤ (wdN ch len a).1 ∧ (wdN ch len a).1 ≤ len) ∧ Z01 (wdN ch len a).2 ∧ ((wdN ch len a).2 ≠ 0 → a + 4 ≤ (wdN ch len a).1) := by
  have s1 := (sg_R hc a).2.2
  unfold wdN
  split
  · rename_i q
    have hl := s1 (by omega)
    split
    · have := f4_R (a := a + 1) (c1 := 112) (c2 := 108) (c3 := 105) (c4 := 116) hc (by omega) (by decide) (by decide) (by decide) (by decide)
      exact ⟨by omega, this.2.1, fun q => by have := this.2.2 q; omega⟩
    · have := f3_R (a := a + 1) (c1 := 111) (c2 := 97) (c3 := 107) hc (by omega) (by decide) (by decide) (by decide)
      exact ⟨by omega, this.2.1, fun q => by have := this.2.2 q; omega⟩
  · split
    · have := f4_R (a := a) (c1 := 98) (c2 := 97) (c3 := 99) (c4 := 107) hc ha (by decide) (by decide) (by decide) (by decide)
      exact ⟨this.1, this.2.1, fun q => by have := this.2.2 q; omega⟩
    · split
      · have := f4_R (a := a) (c1 := 116) (c2 := 105) (c3 := 108) (c4 := 116) hc ha (by decide) (by decide) (by decide) (by decide)
        exact ⟨this.1, this.2.1, fun q => by have := this.2.2 q; omega⟩
      · split
        · have := f4_R (a := a) (c1 := 104) (c2 := 101) (c3 := 97) (c4 := 114) hc ha (by decide) (by decide) (by decide) (by decide)
          exact ⟨this.1, this.2.1, fun q => by have := this.2.2 q; omega⟩
        · exact ⟨by dsimp only; omega, Or.inl rfl, fun q => absurd rfl q⟩
theorem wdX_R {ch : Int → Int} {len a : Int} (hc : ChOK ch len) (ha : 0 ≤ a ∧ a ≤ len) : (a ≤ (wdX ch len a).1 ∧ (wdX ch len a).1 ≤ len) ∧ Z01 (wdX ch len a).2 ∧ ((wdX ch len a).2 ≠ 0 → a + 5 ≤ (wdX ch len a).1) := by
  have h := wdN_R hc ha
  have s1 := (sg_R hc (wdN ch len a).1).2.2
  unfold wdX
  split
  · exact ⟨h.1, h.2.1, fun q => by contradiction⟩
  · split
    · exact ⟨by dsimp only; omega, Or.inr rfl, fun _ => by dsimp only; omega⟩
    · exact ⟨h.1, Or.inl rfl, fun q => absurd rfl q⟩
/-- a number: where it ends, what it is, the first one out of its range -/
def nuE (ch : Int → Int) (len a : Int) : Int := (dgJ ch len 5 a 0).1
def nuV (ch : Int → Int) (len a : Int) : Int := (dgJ ch len 5 a 0).2
def nuW (ch : Int → Int) (len lo hi a w : Int) : Int := if w < 0 ∧ a < nuE ch len a ∧ ¬ (lo ≤ nuV ch len a ∧ nuV ch len a ≤ hi) then a else w
def nuB (ch : Int → Int) (len fo wh ng a : Int) (nb : Int → Int) : Int → Int := zup nb (3 * (fo % 12) + wh) (if ng = 0 then nuV ch len a else -(nuV ch len a))
theorem nu_R {ch : Int → Int} {len a : Int} (hc : ChOK ch len) (ha : 0 ≤ a ∧ a ≤ len) : (a ≤ nuE ch len a ∧ nuE ch len a ≤ a + 5 ∧ nuE ch len a ≤ len) ∧ 0 ≤ nuV ch len a ∧ nuV ch len a < 100000 := by
  have e := dg_R hc 5 a 0 ha.1 ha.2 (by decide)
  simp only [show (10 : Int) ^ 5 = 100000 by decide] at e
  unfold nuE nuV
  omega
theorem nuW_R {ch : Int → Int} {len lo hi a w : Int} (ha : 0 ≤ a ∧ a ≤ len) (hw : -1 ≤ w ∧ w ≤ len) : -1 ≤ nuW ch len lo hi a w ∧ nuW ch len lo hi a w ≤ len := by unfold nuW; split <;> omega
def nS (ch : Int → Int) (len fo wh lo hi ng : Int) (t : Int × Int × (Int → Int)) : Int × Int × (Int → Int) := (nuE ch len t.1, nuW ch len lo hi t.1 t.2.1, nuB ch len fo wh ng t.1 t.2.2)
/-- a part: whether it stands here, and what is left behind -/
def mr_0 (ch : Int → Int) (len fo a w : Int) (nb : Int → Int) : Int × Int × (Int → Int) := ((wdX ch len a).1, w, zup nb (3 * (fo % 12) + 2) 0)
def mr_1 (ch : Int → Int) (len fo a w : Int) (nb : Int → Int) : Int × Int × (Int → Int) := nS ch len fo 0 0 27719 0 (mr_0 ch len fo a w nb)
def mr_2 (ch : Int → Int) (len fo a w : Int) (nb : Int → Int) : Int × Int × (Int → Int) := nS ch len fo 1 1 27720 0 ((mr_1 ch len fo a w nb).1 + 1, (mr_1 ch len fo a w nb).2)
def mr_G (ch : Int → Int) (len fo a w : Int) (nb : Int → Int) : Int := if wkK ch len a ≠ 0 ∧ sgF ch len ((mr_2 ch len fo a w nb).1 + 1) = 45 then 1 else 0
def mr_3 (ch : Int → Int) (len fo a w : Int) (nb : Int → Int) : Int × Int × (Int → Int) := nS ch len fo 2 0 (if wkK ch len a = 0 then 1000 else 9999) (mr_G ch len fo a w nb) ((mr_2 ch len fo a w nb).1 + 1 + mr_G ch len fo a w nb, (mr_2 ch len fo a w nb).2)
def mr_M (ch : Int → Int) (len fo a w : Int) (nb : Int → Int) : Int × Int × Int × (Int → Int) :=
  if (wdX ch len a).2 = 0 then (0, (wdX ch len a).1, w, nb)
  else if ¬ (mr_0 ch len fo a w nb).1 < (mr_1 ch len fo a w nb).1 then (0, mr_1 ch len fo a w nb)
  else if ¬ sgF ch len (mr_1 ch len fo a w nb).1 = 43 then (0, mr_1 ch len fo a w nb)
  else if ¬ (mr_1 ch len fo a w nb).1 + 1 < (mr_2 ch len fo a w nb).1 then (0, mr_2 ch len fo a w nb)
  else if wkK ch len a = 1 ∨ wkK ch len a = 4 then (1, mr_2 ch len fo a w nb)
  else if ¬ sgF ch len (mr_2 ch len fo a w nb).1 = 44 then (0, mr_2 ch len fo a w nb)
  else (bZ ((mr_2 ch len fo a w nb).1 + 1 + mr_G ch len fo a w nb < (mr_3 ch len fo a w nb).1), mr_3 ch len fo a w nb)
theorem mr_R {ch : Int → Int} {len fo a w : Int} {nb : Int → Int} (hc : ChOK ch len) (ha : 0 ≤ a ∧ a ≤ len) (hw : -1 ≤ w ∧ w ≤ len) :
    (a ≤ (mr_M ch len fo a w nb).2.1 ∧ (mr_M ch len fo a w nb).2.1 ≤ len) ∧ Z01 (mr_M ch len fo a w nb).1 ∧ (-1 ≤ (mr_M ch len fo a w nb).2.2.1 ∧ (mr_M ch len fo a w nb).2.2.1 ≤ len) ∧ ((mr_M ch len fo a w nb).1 ≠ 0 → a + 5 ≤ (mr_M ch len fo a w nb).2.1) := by
  have q0 := wdX_R hc ha
  have e0 : (mr_0 ch len fo a w nb).1 = (wdX ch len a).1 := rfl
  have e0w : (mr_0 ch len fo a w nb).2.1 = w := rfl
  have q1 := nu_R (a := (mr_0 ch len fo a w nb).1) hc (by omega)
  have e1 : (mr_1 ch len fo a w nb).1 = nuE ch len (mr_0 ch len fo a w nb).1 := rfl
  have w1 : -1 ≤ (mr_1 ch len fo a w nb).2.1 ∧ (mr_1 ch len fo a w nb).2.1 ≤ len := nuW_R (by omega) (by omega)
  have s1 := (sg_R hc (mr_1 ch len fo a w nb).1).2.2
  have s2 := (sg_R hc (mr_2 ch len fo a w nb).1).2.2
  have s3 := (sg_R hc ((mr_2 ch len fo a w nb).1 + 1)).2.2
  have e2 : (mr_2 ch len fo a w nb).1 = nuE ch len ((mr_1 ch len fo a w nb).1 + 1) := rfl
  have e3 : (mr_3 ch len fo a w nb).1 = nuE ch len ((mr_2 ch len fo a w nb).1 + 1 + mr_G ch len fo a w nb) := rfl
  have gg : mr_G ch len fo a w nb = 0 ∨ (mr_G ch len fo a w nb = 1 ∧ sgF ch len ((mr_2 ch len fo a w nb).1 + 1) = 45) := by
    unfold mr_G
    split
    · rename_i q
      exact Or.inr ⟨rfl, q.2⟩
    · exact Or.inl rfl
  unfold mr_M
  split
  · exact ⟨by dsimp only; omega, Or.inl rfl, by dsimp only; omega, fun q => absurd rfl q⟩
  · split
    · exact ⟨by dsimp only; omega, Or.inl rfl, w1, fun q => absurd rfl q⟩
    · split
      · exact ⟨by dsimp only; omega, Or.inl rfl, w1, fun q => absurd rfl q⟩
      · rename_i c1 c2 c3
        have q2 := nu_R (a := (mr_1 ch len fo a w nb).1 + 1) hc (by omega)
        have w2 : -1 ≤ (mr_2 ch len fo a w nb).2.1 ∧ (mr_2 ch len fo a w nb).2.1 ≤ len := nuW_R (by omega) w1
        split
        · exact ⟨by dsimp only; omega, Or.inl rfl, w2, fun q => absurd rfl q⟩
        · split
          · exact ⟨by dsimp only; omega, Or.inr rfl, w2, fun _ => by dsimp only; omega⟩
          · split
            · exact ⟨by dsimp only; omega, Or.inl rfl, w2, fun q => absurd rfl q⟩
            · have q3 := nu_R (a := (mr_2 ch len fo a w nb).1 + 1 + mr_G ch len fo a w nb) hc (by omega)
              have w3 : -1 ≤ (mr_3 ch len fo a w nb).2.1 ∧ (mr_3 ch len fo a w nb).2.1 ≤ len := nuW_R (by omega) w2
              exact ⟨by dsimp only; omega, bZ_Z, w3, fun _ => by dsimp only; omega⟩
/-- all parts: place, found, first wrong number, kinds, numbers -/
abbrev MT : Type := Int × Int × Int × (Int → Int) × (Int → Int)
def mtP (ch : Int → Int) (len : Int) (t : MT) : Int × Int × Int × (Int → Int) := mr_M ch len t.2.1 t.1 t.2.2.1 t.2.2.2.2
def mtK (ch : Int → Int) (len : Int) (t : MT) : Int → Int := zup t.2.2.2.1 (t.2.1 % 12) (wkK ch len t.1)
def wrI (ch : Int → Int) (len : Int) : Nat → MT → Int × MT
  | 0, t => (0, t)
  | n + 1, t =>
    if (mtP ch len t).1 = 0 then ((mtP ch len t).2.1, (mtP ch len t).2.1, t.2.1, (mtP ch len t).2.2.1, mtK ch len t, (mtP ch len t).2.2.2)
    else if sgF ch len (mtP ch len t).2.1 = 59 then wrI ch len n ((mtP ch len t).2.1 + 1, t.2.1 + 1, (mtP ch len t).2.2.1, mtK ch len t, (mtP ch len t).2.2.2)
    else ((if (mtP ch len t).2.1 < len then (mtP ch len t).2.1 else (mtP ch len t).2.2.1), (mtP ch len t).2.1, t.2.1 + 1, (mtP ch len t).2.2.1, mtK ch len t, (mtP ch len t).2.2.2)
theorem wr_a {ch : Int → Int} {len : Int} {t : MT} (n : Nat) (h : (mtP ch len t).1 = 0) : wrI ch len (n + 1) t = ((mtP ch len t).2.1, (mtP ch len t).2.1, t.2.1, (mtP ch len t).2.2.1, mtK ch len t, (mtP ch len t).2.2.2) := if_pos h
theorem wr_b {ch : Int → Int} {len : Int} {t : MT} (n : Nat) (h : ¬ (mtP ch len t).1 = 0) (h2 : sgF ch len (mtP ch len t).2.1 = 59) : wrI ch len (n + 1) t = wrI ch len n ((mtP ch len t).2.1 + 1, t.2.1 + 1, (mtP ch len t).2.2.1, mtK ch len t, (mtP ch len t).2.2.2) := by
  rw [wrI, if_neg h, if_pos h2]
theorem wr_c {ch : Int → Int} {len : Int} {t : MT} (n : Nat) (h : ¬ (mtP ch len t).1 = 0) (h2 : ¬ sgF ch len (mtP ch len t).2.1 = 59) : wrI ch len (n + 1) t = ((if (mtP ch len t).2.1 < len then (mtP ch len t).2.1 else (mtP ch len t).2.2.1), (mtP ch len t).2.1, t.2.1 + 1, (mtP ch len t).2.2.1, mtK ch len t, (mtP ch len t).2.2.2) := by
  rw [wrI, if_neg h, if_neg h2]
