/-! the hundred rays: one list, by index -/
def rayC (ra : Int → Nat) (P S E T U : Int → Int) (i : Nat) : Nat × va_E := (ra (i : Int), .inr (6, [.int (iZ (i : Int)), .int (iZ (P (i : Int))), .int (iZ (S (i : Int))), .int (iZ (E (i : Int))), .long (lZ (T (i : Int))), .int (iZ (U (i : Int)))]))
def raysW (ra : Int → Nat) (P S E T U : Int → Int) : va_W := (List.range 100).map (rayC ra P S E T U)
def rayA (ra : Int → Nat) : Nat → Option Nat := fun j => if j < 100 then some (ra (j : Int)) else none
theorem rayA_at {ra : Int → Nat} {m : Int} (h : 0 ≤ m ∧ m < 100) : rayA ra m.toNat = some (ra m) := by
  unfold rayA
  rw [if_pos (by omega), Int.toNat_of_nonneg h.1]
theorem rays_len {ra : Int → Nat} {P S E T U : Int → Int} : (raysW ra P S E T U).length = 100 := by unfold raysW; simp
theorem ray_at {ra : Int → Nat} {P S E T U : Int → Int} (j : Nat) (h : j < 100) : (raysW ra P S E T U)[j]? = some (rayC ra P S E T U j) := by
  unfold raysW
  rw [List.getElem?_map, List.getElem?_range h]
  rfl
theorem ray_get {ra : Int → Nat} {P S E T U : Int → Int} {m : Int} (h : 0 ≤ m ∧ m < 100) : (raysW ra P S E T U)[m.toNat]? = some (ra m, .inr (6, [.int (iZ m), .int (iZ (P m)), .int (iZ (S m)), .int (iZ (E m)), .long (lZ (T m)), .int (iZ (U m))])) := by
  rw [ray_at _ (by omega)]
  unfold rayC
  rw [Int.toNat_of_nonneg h.1]
theorem ray_setA {ra : Int → Nat} {P S E T U : Int → Int} {m p s e t u : Int} (h : 0 ≤ m ∧ m < 100) : (raysW ra P S E T U).set m.toNat (ra m, .inr (6, [.int (iZ m), .int (iZ p), .int (iZ s), .int (iZ e), .long (lZ t), .int (iZ u)])) = raysW ra (zup P m p) (zup S m s) (zup E m e) (zup T m t) (zup U m u) := by
  apply List.ext_getElem?
  intro j
  by_cases hj : j < 100
  · rw [ray_at j hj]
    by_cases hm : m.toNat = j
    · subst hm
      rw [List.getElem?_set_self (by rw [rays_len]; exact hj)]
      unfold rayC
      rw [Int.toNat_of_nonneg h.1, zup_s, zup_s, zup_s, zup_s, zup_s]
    · rw [List.getElem?_set_ne hm, ray_at j hj]
      unfold rayC
      rw [zup_n (by omega), zup_n (by omega), zup_n (by omega), zup_n (by omega), zup_n (by omega)]
  · rw [List.getElem?_eq_none (by rw [List.length_set, rays_len]; omega), List.getElem?_eq_none (by rw [rays_len]; omega)]
theorem zup_id {f : Int → Int} {m : Int} : zup f m (f m) = f := by
  funext j
  unfold zup
  split
  · rename_i e
    rw [e]
  · rfl
theorem ray_set0 {ra : Int → Nat} {P S E T U : Int → Int} {m  : Int} (h : 0 ≤ m ∧ m < 100) : (raysW ra P S E T U).set m.toNat (ra m, .inr (6, [.int (iZ m), .int (iZ (P m)), .int (iZ (S m)), .int (iZ (E m)), .long (lZ (T m)), .int (iZ (U m))])) = raysW ra P S E T U := by
  rw [ray_setA h]
  simp only [zup_id]
theorem ray_set1 {ra : Int → Nat} {P S E T U : Int → Int} {m p : Int} (h : 0 ≤ m ∧ m < 100) : (raysW ra P S E T U).set m.toNat (ra m, .inr (6, [.int (iZ m), .int (iZ p), .int (iZ (S m)), .int (iZ (E m)), .long (lZ (T m)), .int (iZ (U m))])) = raysW ra (zup P m p) S E T U := by
  rw [ray_setA h]
  simp only [zup_id]
theorem ray_set2 {ra : Int → Nat} {P S E T U : Int → Int} {m s : Int} (h : 0 ≤ m ∧ m < 100) : (raysW ra P S E T U).set m.toNat (ra m, .inr (6, [.int (iZ m), .int (iZ (P m)), .int (iZ s), .int (iZ (E m)), .long (lZ (T m)), .int (iZ (U m))])) = raysW ra P (zup S m s) E T U := by
  rw [ray_setA h]
  simp only [zup_id]
theorem ray_set3 {ra : Int → Nat} {P S E T U : Int → Int} {m e : Int} (h : 0 ≤ m ∧ m < 100) : (raysW ra P S E T U).set m.toNat (ra m, .inr (6, [.int (iZ m), .int (iZ (P m)), .int (iZ (S m)), .int (iZ e), .long (lZ (T m)), .int (iZ (U m))])) = raysW ra P S (zup E m e) T U := by
  rw [ray_setA h]
  simp only [zup_id]
theorem ray_set4 {ra : Int → Nat} {P S E T U : Int → Int} {m t : Int} (h : 0 ≤ m ∧ m < 100) : (raysW ra P S E T U).set m.toNat (ra m, .inr (6, [.int (iZ m), .int (iZ (P m)), .int (iZ (S m)), .int (iZ (E m)), .long (lZ t), .int (iZ (U m))])) = raysW ra P S E (zup T m t) U := by
  rw [ray_setA h]
  simp only [zup_id]
theorem ray_set5 {ra : Int → Nat} {P S E T U : Int → Int} {m u : Int} (h : 0 ≤ m ∧ m < 100) : (raysW ra P S E T U).set m.toNat (ra m, .inr (6, [.int (iZ m), .int (iZ (P m)), .int (iZ (S m)), .int (iZ (E m)), .long (lZ (T m)), .int (iZ u)])) = raysW ra P S E T (zup U m u) := by
  rw [ray_setA h]
  simp only [zup_id]
theorem ray_set25 {ra : Int → Nat} {P S E T U : Int → Int} {m s u : Int} (h : 0 ≤ m ∧ m < 100) : (raysW ra P S E T U).set m.toNat (ra m, .inr (6, [.int (iZ m), .int (iZ (P m)), .int (iZ s), .int (iZ (E m)), .long (lZ (T m)), .int (iZ u)])) = raysW ra P (zup S m s) E T (zup U m u) := by
  rw [ray_setA h]
  simp only [zup_id]
theorem ray_set12345 {ra : Int → Nat} {P S E T U : Int → Int} {m p s e t u : Int} (h : 0 ≤ m ∧ m < 100) : (raysW ra P S E T U).set m.toNat (ra m, .inr (6, [.int (iZ m), .int (iZ p), .int (iZ s), .int (iZ e), .long (lZ t), .int (iZ u)])) = raysW ra (zup P m p) (zup S m s) (zup E m e) (zup T m t) (zup U m u) := by
  rw [ray_setA h]
theorem gp0 {α : Type} {t : List α} {x : α} {r : Nat} (h : t[r]? = some x) : (t)[r + 0]? = some x := h
theorem sp0 {α : Type} {t t2 : List α} {y : α} {r : Nat} (h : t.set r y = t2) : (t).set (r + 0) y = t2 := by subst h; rfl
theorem gp1 {α : Type} {a0 : α} {t : List α} {x : α} {r : Nat} (h : t[r]? = some x) : (a0 :: t)[r + 1]? = some x := h
theorem sp1 {α : Type} {a0 : α} {t t2 : List α} {y : α} {r : Nat} (h : t.set r y = t2) : (a0 :: t).set (r + 1) y = a0 :: t2 := by subst h; rfl
theorem gp2 {α : Type} {a0 a1 : α} {t : List α} {x : α} {r : Nat} (h : t[r]? = some x) : (a0 :: a1 :: t)[r + 2]? = some x := h
theorem sp2 {α : Type} {a0 a1 : α} {t t2 : List α} {y : α} {r : Nat} (h : t.set r y = t2) : (a0 :: a1 :: t).set (r + 2) y = a0 :: a1 :: t2 := by subst h; rfl
theorem gp3 {α : Type} {a0 a1 a2 : α} {t : List α} {x : α} {r : Nat} (h : t[r]? = some x) : (a0 :: a1 :: a2 :: t)[r + 3]? = some x := h
theorem sp3 {α : Type} {a0 a1 a2 : α} {t t2 : List α} {y : α} {r : Nat} (h : t.set r y = t2) : (a0 :: a1 :: a2 :: t).set (r + 3) y = a0 :: a1 :: a2 :: t2 := by subst h; rfl
theorem gp4 {α : Type} {a0 a1 a2 a3 : α} {t : List α} {x : α} {r : Nat} (h : t[r]? = some x) : (a0 :: a1 :: a2 :: a3 :: t)[r + 4]? = some x := h
theorem sp4 {α : Type} {a0 a1 a2 a3 : α} {t t2 : List α} {y : α} {r : Nat} (h : t.set r y = t2) : (a0 :: a1 :: a2 :: a3 :: t).set (r + 4) y = a0 :: a1 :: a2 :: a3 :: t2 := by subst h; rfl
theorem gp5 {α : Type} {a0 a1 a2 a3 a4 : α} {t : List α} {x : α} {r : Nat} (h : t[r]? = some x) : (a0 :: a1 :: a2 :: a3 :: a4 :: t)[r + 5]? = some x := h
theorem sp5 {α : Type} {a0 a1 a2 a3 a4 : α} {t t2 : List α} {y : α} {r : Nat} (h : t.set r y = t2) : (a0 :: a1 :: a2 :: a3 :: a4 :: t).set (r + 5) y = a0 :: a1 :: a2 :: a3 :: a4 :: t2 := by subst h; rfl
theorem gp6 {α : Type} {a0 a1 a2 a3 a4 a5 : α} {t : List α} {x : α} {r : Nat} (h : t[r]? = some x) : (a0 :: a1 :: a2 :: a3 :: a4 :: a5 :: t)[r + 6]? = some x := h
theorem sp6 {α : Type} {a0 a1 a2 a3 a4 a5 : α} {t t2 : List α} {y : α} {r : Nat} (h : t.set r y = t2) : (a0 :: a1 :: a2 :: a3 :: a4 :: a5 :: t).set (r + 6) y = a0 :: a1 :: a2 :: a3 :: a4 :: a5 :: t2 := by subst h; rfl
theorem gp7 {α : Type} {a0 a1 a2 a3 a4 a5 a6 : α} {t : List α} {x : α} {r : Nat} (h : t[r]? = some x) : (a0 :: a1 :: a2 :: a3 :: a4 :: a5 :: a6 :: t)[r + 7]? = some x := h
theorem sp7 {α : Type} {a0 a1 a2 a3 a4 a5 a6 : α} {t t2 : List α} {y : α} {r : Nat} (h : t.set r y = t2) : (a0 :: a1 :: a2 :: a3 :: a4 :: a5 :: a6 :: t).set (r + 7) y = a0 :: a1 :: a2 :: a3 :: a4 :: a5 :: a6 :: t2 := by subst h; rfl
theorem gp8 {α : Type} {a0 a1 a2 a3 a4 a5 a6 a7 : α} {t : List α} {x : α} {r : Nat} (h : t[r]? = some x) : (a0 :: a1 :: a2 :: a3 :: a4 :: a5 :: a6 :: a7 :: t)[r + 8]? = some x := h
theorem sp8 {α : Type} {a0 a1 a2 a3 a4 a5 a6 a7 : α} {t t2 : List α} {y : α} {r : Nat} (h : t.set r y = t2) : (a0 :: a1 :: a2 :: a3 :: a4 :: a5 :: a6 :: a7 :: t).set (r + 8) y = a0 :: a1 :: a2 :: a3 :: a4 :: a5 :: a6 :: a7 :: t2 := by subst h; rfl
theorem gp9 {α : Type} {a0 a1 a2 a3 a4 a5 a6 a7 a8 : α} {t : List α} {x : α} {r : Nat} (h : t[r]? = some x) : (a0 :: a1 :: a2 :: a3 :: a4 :: a5 :: a6 :: a7 :: a8 :: t)[r + 9]? = some x := h
theorem sp9 {α : Type} {a0 a1 a2 a3 a4 a5 a6 a7 a8 : α} {t t2 : List α} {y : α} {r : Nat} (h : t.set r y = t2) : (a0 :: a1 :: a2 :: a3 :: a4 :: a5 :: a6 :: a7 :: a8 :: t).set (r + 9) y = a0 :: a1 :: a2 :: a3 :: a4 :: a5 :: a6 :: a7 :: a8 :: t2 := by subst h; rfl
theorem gp10 {α : Type} {a0 a1 a2 a3 a4 a5 a6 a7 a8 a9 : α} {t : List α} {x : α} {r : Nat} (h : t[r]? = some x) : (a0 :: a1 :: a2 :: a3 :: a4 :: a5 :: a6 :: a7 :: a8 :: a9 :: t)[r + 10]? = some x := h
theorem sp10 {α : Type} {a0 a1 a2 a3 a4 a5 a6 a7 a8 a9 : α} {t t2 : List α} {y : α} {r : Nat} (h : t.set r y = t2) : (a0 :: a1 :: a2 :: a3 :: a4 :: a5 :: a6 :: a7 :: a8 :: a9 :: t).set (r + 10) y = a0 :: a1 :: a2 :: a3 :: a4 :: a5 :: a6 :: a7 :: a8 :: a9 :: t2 := by subst h; rfl
theorem gp11 {α : Type} {a0 a1 a2 a3 a4 a5 a6 a7 a8 a9 a10 : α} {t : List α} {x : α} {r : Nat} (h : t[r]? = some x) : (a0 :: a1 :: a2 :: a3 :: a4 :: a5 :: a6 :: a7 :: a8 :: a9 :: a10 :: t)[r + 11]? = some x := h
theorem sp11 {α : Type} {a0 a1 a2 a3 a4 a5 a6 a7 a8 a9 a10 : α} {t t2 : List α} {y : α} {r : Nat} (h : t.set r y = t2) : (a0 :: a1 :: a2 :: a3 :: a4 :: a5 :: a6 :: a7 :: a8 :: a9 :: a10 :: t).set (r + 11) y = a0 :: a1 :: a2 :: a3 :: a4 :: a5 :: a6 :: a7 :: a8 :: a9 :: a10 :: t2 := by subst h; rfl
theorem gp12 {α : Type} {a0 a1 a2 a3 a4 a5 a6 a7 a8 a9 a10 a11 : α} {t : List α} {x : α} {r : Nat} (h : t[r]? = some x) : (a0 :: a1 :: a2 :: a3 :: a4 :: a5 :: a6 :: a7 :: a8 :: a9 :: a10 :: a11 :: t)[r + 12]? = some x := h
theorem sp12 {α : Type} {a0 a1 a2 a3 a4 a5 a6 a7 a8 a9 a10 a11 : α} {t t2 : List α} {y : α} {r : Nat} (h : t.set r y = t2) : (a0 :: a1 :: a2 :: a3 :: a4 :: a5 :: a6 :: a7 :: a8 :: a9 :: a10 :: a11 :: t).set (r + 12) y = a0 :: a1 :: a2 :: a3 :: a4 :: a5 :: a6 :: a7 :: a8 :: a9 :: a10 :: a11 :: t2 := by subst h; rfl
theorem gp13 {α : Type} {a0 a1 a2 a3 a4 a5 a6 a7 a8 a9 a10 a11 a12 : α} {t : List α} {x : α} {r : Nat} (h : t[r]? = some x) : (a0 :: a1 :: a2 :: a3 :: a4 :: a5 :: a6 :: a7 :: a8 :: a9 :: a10 :: a11 :: a12 :: t)[r + 13]? = some x := h
theorem sp13 {α : Type} {a0 a1 a2 a3 a4 a5 a6 a7 a8 a9 a10 a11 a12 : α} {t t2 : List α} {y : α} {r : Nat} (h : t.set r y = t2) : (a0 :: a1 :: a2 :: a3 :: a4 :: a5 :: a6 :: a7 :: a8 :: a9 :: a10 :: a11 :: a12 :: t).set (r + 13) y = a0 :: a1 :: a2 :: a3 :: a4 :: a5 :: a6 :: a7 :: a8 :: a9 :: a10 :: a11 :: a12 :: t2 := by subst h; rfl
theorem gp14 {α : Type} {a0 a1 a2 a3 a4 a5 a6 a7 a8 a9 a10 a11 a12 a13 : α} {t : List α} {x : α} {r : Nat} (h : t[r]? = some x) : (a0 :: a1 :: a2 :: a3 :: a4 :: a5 :: a6 :: a7 :: a8 :: a9 :: a10 :: a11 :: a12 :: a13 :: t)[r + 14]? = some x := h
theorem sp14 {α : Type} {a0 a1 a2 a3 a4 a5 a6 a7 a8 a9 a10 a11 a12 a13 : α} {t t2 : List α} {y : α} {r : Nat} (h : t.set r y = t2) : (a0 :: a1 :: a2 :: a3 :: a4 :: a5 :: a6 :: a7 :: a8 :: a9 :: a10 :: a11 :: a12 :: a13 :: t).set (r + 14) y = a0 :: a1 :: a2 :: a3 :: a4 :: a5 :: a6 :: a7 :: a8 :: a9 :: a10 :: a11 :: a12 :: a13 :: t2 := by subst h; rfl
theorem gp15 {α : Type} {a0 a1 a2 a3 a4 a5 a6 a7 a8 a9 a10 a11 a12 a13 a14 : α} {t : List α} {x : α} {r : Nat} (h : t[r]? = some x) : (a0 :: a1 :: a2 :: a3 :: a4 :: a5 :: a6 :: a7 :: a8 :: a9 :: a10 :: a11 :: a12 :: a13 :: a14 :: t)[r + 15]? = some x := h
theorem sp15 {α : Type} {a0 a1 a2 a3 a4 a5 a6 a7 a8 a9 a10 a11 a12 a13 a14 : α} {t t2 : List α} {y : α} {r : Nat} (h : t.set r y = t2) : (a0 :: a1 :: a2 :: a3 :: a4 :: a5 :: a6 :: a7 :: a8 :: a9 :: a10 :: a11 :: a12 :: a13 :: a14 :: t).set (r + 15) y = a0 :: a1 :: a2 :: a3 :: a4 :: a5 :: a6 :: a7 :: a8 :: a9 :: a10 :: a11 :: a12 :: a13 :: a14 :: t2 := by subst h; rfl
theorem gp16 {α : Type} {a0 a1 a2 a3 a4 a5 a6 a7 a8 a9 a10 a11 a12 a13 a14 a15 : α} {t : List α} {x : α} {r : Nat} (h : t[r]? = some x) : (a0 :: a1 :: a2 :: a3 :: a4 :: a5 :: a6 :: a7 :: a8 :: a9 :: a10 :: a11 :: a12 :: a13 :: a14 :: a15 :: t)[r + 16]? = some x := h
theorem sp16 {α : Type} {a0 a1 a2 a3 a4 a5 a6 a7 a8 a9 a10 a11 a12 a13 a14 a15 : α} {t t2 : List α} {y : α} {r : Nat} (h : t.set r y = t2) : (a0 :: a1 :: a2 :: a3 :: a4 :: a5 :: a6 :: a7 :: a8 :: a9 :: a10 :: a11 :: a12 :: a13 :: a14 :: a15 :: t).set (r + 16) y = a0 :: a1 :: a2 :: a3 :: a4 :: a5 :: a6 :: a7 :: a8 :: a9 :: a10 :: a11 :: a12 :: a13 :: a14 :: a15 :: t2 := by subst h; rfl
theorem gp17 {α : Type} {a0 a1 a2 a3 a4 a5 a6 a7 a8 a9 a10 a11 a12 a13 a14 a15 a16 : α} {t : List α} {x : α} {r : Nat} (h : t[r]? = some x) : (a0 :: a1 :: a2 :: a3 :: a4 :: a5 :: a6 :: a7 :: a8 :: a9 :: a10 :: a11 :: a12 :: a13 :: a14 :: a15 :: a16 :: t)[r + 17]? = some x := h
theorem sp17 {α : Type} {a0 a1 a2 a3 a4 a5 a6 a7 a8 a9 a10 a11 a12 a13 a14 a15 a16 : α} {t t2 : List α} {y : α} {r : Nat} (h : t.set r y = t2) : (a0 :: a1 :: a2 :: a3 :: a4 :: a5 :: a6 :: a7 :: a8 :: a9 :: a10 :: a11 :: a12 :: a13 :: a14 :: a15 :: a16 :: t).set (r + 17) y = a0 :: a1 :: a2 :: a3 :: a4 :: a5 :: a6 :: a7 :: a8 :: a9 :: a10 :: a11 :: a12 :: a13 :: a14 :: a15 :: a16 :: t2 := by subst h; rfl
theorem gp18 {α : Type} {a0 a1 a2 a3 a4 a5 a6 a7 a8 a9 a10 a11 a12 a13 a14 a15 a16 a17 : α} {t : List α} {x : α} {r : Nat} (h : t[r]? = some x) : (a0 :: a1 :: a2 :: a3 :: a4 :: a5 :: a6 :: a7 :: a8 :: a9 :: a10 :: a11 :: a12 :: a13 :: a14 :: a15 :: a16 :: a17 :: t)[r + 18]? = some x := h
theorem sp18 {α : Type} {a0 a1 a2 a3 a4 a5 a6 a7 a8 a9 a10 a11 a12 a13 a14 a15 a16 a17 : α} {t t2 : List α} {y : α} {r : Nat} (h : t.set r y = t2) : (a0 :: a1 :: a2 :: a3 :: a4 :: a5 :: a6 :: a7 :: a8 :: a9 :: a10 :: a11 :: a12 :: a13 :: a14 :: a15 :: a16 :: a17 :: t).set (r + 18) y = a0 :: a1 :: a2 :: a3 :: a4 :: a5 :: a6 :: a7 :: a8 :: a9 :: a10 :: a11 :: a12 :: a13 :: a14 :: a15 :: a16 :: a17 :: t2 := by subst h; rfl
theorem gp19 {α : Type} {a0 a1 a2 a3 a4 a5 a6 a7 a8 a9 a10 a11 a12 a13 a14 a15 a16 a17 a18 : α} {t : List α} {x : α} {r : Nat} (h : t[r]? = some x) : (a0 :: a1 :: a2 :: a3 :: a4 :: a5 :: a6 :: a7 :: a8 :: a9 :: a10 :: a11 :: a12 :: a13 :: a14 :: a15 :: a16 :: a17 :: a18 :: t)[r + 19]? = some x := h
theorem sp19 {α : Type} {a0 a1 a2 a3 a4 a5 a6 a7 a8 a9 a10 a11 a12 a13 a14 a15 a16 a17 a18 : α} {t t2 : List α} {y : α} {r : Nat} (h : t.set r y = t2) : (a0 :: a1 :: a2 :: a3 :: a4 :: a5 :: a6 :: a7 :: a8 :: a9 :: a10 :: a11 :: a12 :: a13 :: a14 :: a15 :: a16 :: a17 :: a18 :: t).set (r + 19) y = a0 :: a1 :: a2 :: a3 :: a4 :: a5 :: a6 :: a7 :: a8 :: a9 :: a10 :: a11 :: a12 :: a13 :: a14 :: a15 :: a16 :: a17 :: a18 :: t2 := by subst h; rfl
theorem gp20 {α : Type} {a0 a1 a2 a3 a4 a5 a6 a7 a8 a9 a10 a11 a12 a13 a14 a15 a16 a17 a18 a19 : α} {t : List α} {x : α} {r : Nat} (h : t[r]? = some x) : (a0 :: a1 :: a2 :: a3 :: a4 :: a5 :: a6 :: a7 :: a8 :: a9 :: a10 :: a11 :: a12 :: a13 :: a14 :: a15 :: a16 :: a17 :: a18 :: a19 :: t)[r + 20]? = some x := h
theorem sp20 {α : Type} {a0 a1 a2 a3 a4 a5 a6 a7 a8 a9 a10 a11 a12 a13 a14 a15 a16 a17 a18 a19 : α} {t t2 : List α} {y : α} {r : Nat} (h : t.set r y = t2) : (a0 :: a1 :: a2 :: a3 :: a4 :: a5 :: a6 :: a7 :: a8 :: a9 :: a10 :: a11 :: a12 :: a13 :: a14 :: a15 :: a16 :: a17 :: a18 :: a19 :: t).set (r + 20) y = a0 :: a1 :: a2 :: a3 :: a4 :: a5 :: a6 :: a7 :: a8 :: a9 :: a10 :: a11 :: a12 :: a13 :: a14 :: a15 :: a16 :: a17 :: a18 :: a19 :: t2 := by subst h; rfl
theorem gp21 {α : Type} {a0 a1 a2 a3 a4 a5 a6 a7 a8 a9 a10 a11 a12 a13 a14 a15 a16 a17 a18 a19 a20 : α} {t : List α} {x : α} {r : Nat} (h : t[r]? = some x) : (a0 :: a1 :: a2 :: a3 :: a4 :: a5 :: a6 :: a7 :: a8 :: a9 :: a10 :: a11 :: a12 :: a13 :: a14 :: a15 :: a16 :: a17 :: a18 :: a19 :: a20 :: t)[r + 21]? = some x := h
theorem sp21 {α : Type} {a0 a1 a2 a3 a4 a5 a6 a7 a8 a9 a10 a11 a12 a13 a14 a15 a16 a17 a18 a19 a20 : α} {t t2 : List α} {y : α} {r : Nat} (h : t.set r y = t2) : (a0 :: a1 :: a2 :: a3 :: a4 :: a5 :: a6 :: a7 :: a8 :: a9 :: a10 :: a11 :: a12 :: a13 :: a14 :: a15 :: a16 :: a17 :: a18 :: a19 :: a20 :: t).set (r + 21) y = a0 :: a1 :: a2 :: a3 :: a4 :: a5 :: a6 :: a7 :: a8 :: a9 :: a10 :: a11 :: a12 :: a13 :: a14 :: a15 :: a16 :: a17 :: a18 :: a19 :: a20 :: t2 := by subst h; rfl
theorem gp22 {α : Type} {a0 a1 a2 a3 a4 a5 a6 a7 a8 a9 a10 a11 a12 a13 a14 a15 a16 a17 a18 a19 a20 a21 : α} {t : List α} {x : α} {r : Nat} (h : t[r]? = some x) : (a0 :: a1 :: a2 :: a3 :: a4 :: a5 :: a6 :: a7 :: a8 :: a9 :: a10 :: a11 :: a12 :: a13 :: a14 :: a15 :: a16 :: a17 :: a18 :: a19 :: a20 :: a21 :: t)[r + 22]? = some x := h
theorem sp22 {α : Type} {a0 a1 a2 a3 a4 a5 a6 a7 a8 a9 a10 a11 a12 a13 a14 a15 a16 a17 a18 a19 a20 a21 : α} {t t2 : List α} {y : α} {r : Nat} (h : t.set r y = t2) : (a0 :: a1 :: a2 :: a3 :: a4 :: a5 :: a6 :: a7 :: a8 :: a9 :: a10 :: a11 :: a12 :: a13 :: a14 :: a15 :: a16 :: a17 :: a18 :: a19 :: a20 :: a21 :: t).set (r + 22) y = a0 :: a1 :: a2 :: a3 :: a4 :: a5 :: a6 :: a7 :: a8 :: a9 :: a10 :: a11 :: a12 :: a13 :: a14 :: a15 :: a16 :: a17 :: a18 :: a19 :: a20 :: a21 :: t2 := by subst h; rfl
theorem gp23 {α : Type} {a0 a1 a2 a3 a4 a5 a6 a7 a8 a9 a10 a11 a12 a13 a14 a15 a16 a17 a18 a19 a20 a21 a22 : α} {t : List α} {x : α} {r : Nat} (h : t[r]? = some x) : (a0 :: a1 :: a2 :: a3 :: a4 :: a5 :: a6 :: a7 :: a8 :: a9 :: a10 :: a11 :: a12 :: a13 :: a14 :: a15 :: a16 :: a17 :: a18 :: a19 :: a20 :: a21 :: a22 :: t)[r + 23]? = some x := h
theorem sp23 {α : Type} {a0 a1 a2 a3 a4 a5 a6 a7 a8 a9 a10 a11 a12 a13 a14 a15 a16 a17 a18 a19 a20 a21 a22 : α} {t t2 : List α} {y : α} {r : Nat} (h : t.set r y = t2) : (a0 :: a1 :: a2 :: a3 :: a4 :: a5 :: a6 :: a7 :: a8 :: a9 :: a10 :: a11 :: a12 :: a13 :: a14 :: a15 :: a16 :: a17 :: a18 :: a19 :: a20 :: a21 :: a22 :: t).set (r + 23) y = a0 :: a1 :: a2 :: a3 :: a4 :: a5 :: a6 :: a7 :: a8 :: a9 :: a10 :: a11 :: a12 :: a13 :: a14 :: a15 :: a16 :: a17 :: a18 :: a19 :: a20 :: a21 :: a22 :: t2 := by subst h; rfl
theorem gp24 {α : Type} {a0 a1 a2 a3 a4 a5 a6 a7 a8 a9 a10 a11 a12 a13 a14 a15 a16 a17 a18 a19 a20 a21 a22 a23 : α} {t : List α} {x : α} {r : Nat} (h : t[r]? = some x) : (a0 :: a1 :: a2 :: a3 :: a4 :: a5 :: a6 :: a7 :: a8 :: a9 :: a10 :: a11 :: a12 :: a13 :: a14 :: a15 :: a16 :: a17 :: a18 :: a19 :: a20 :: a21 :: a22 :: a23 :: t)[r + 24]? = some x := h
theorem sp24 {α : Type} {a0 a1 a2 a3 a4 a5 a6 a7 a8 a9 a10 a11 a12 a13 a14 a15 a16 a17 a18 a19 a20 a21 a22 a23 : α} {t t2 : List α} {y : α} {r : Nat} (h : t.set r y = t2) : (a0 :: a1 :: a2 :: a3 :: a4 :: a5 :: a6 :: a7 :: a8 :: a9 :: a10 :: a11 :: a12 :: a13 :: a14 :: a15 :: a16 :: a17 :: a18 :: a19 :: a20 :: a21 :: a22 :: a23 :: t).set (r + 24) y = a0 :: a1 :: a2 :: a3 :: a4 :: a5 :: a6 :: a7 :: a8 :: a9 :: a10 :: a11 :: a12 :: a13 :: a14 :: a15 :: a16 :: a17 :: a18 :: a19 :: a20 :: a21 :: a22 :: a23 :: t2 := by subst h; rfl
theorem gp25 {α : Type} {a0 a1 a2 a3 a4 a5 a6 a7 a8 a9 a10 a11 a12 a13 a14 a15 a16 a17 a18 a19 a20 a21 a22 a23 a24 : α} {t : List α} {x : α} {r : Nat} (h : t[r]? = some x) : (a0 :: a1 :: a2 :: a3 :: a4 :: a5 :: a6 :: a7 :: a8 :: a9 :: a10 :: a11 :: a12 :: a13 :: a14 :: a15 :: a16 :: a17 :: a18 :: a19 :: a20 :: a21 :: a22 :: a23 :: a24 :: t)[r + 25]? = some x := h
theorem sp25 {α : Type} {a0 a1 a2 a3 a4 a5 a6 a7 a8 a9 a10 a11 a12 a13 a14 a15 a16 a17 a18 a19 a20 a21 a22 a23 a24 : α} {t t2 : List α} {y : α} {r : Nat} (h : t.set r y = t2) : (a0 :: a1 :: a2 :: a3 :: a4 :: a5 :: a6 :: a7 :: a8 :: a9 :: a10 :: a11 :: a12 :: a13 :: a14 :: a15 :: a16 :: a17 :: a18 :: a19 :: a20 :: a21 :: a22 :: a23 :: a24 :: t).set (r + 25) y = a0 :: a1 :: a2 :: a3 :: a4 :: a5 :: a6 :: a7 :: a8 :: a9 :: a10 :: a11 :: a12 :: a13 :: a14 :: a15 :: a16 :: a17 :: a18 :: a19 :: a20 :: a21 :: a22 :: a23 :: a24 :: t2 := by subst h; rfl
theorem gp26 {α : Type} {a0 a1 a2 a3 a4 a5 a6 a7 a8 a9 a10 a11 a12 a13 a14 a15 a16 a17 a18 a19 a20 a21 a22 a23 a24 a25 : α} {t : List α} {x : α} {r : Nat} (h : t[r]? = some x) : (a0 :: a1 :: a2 :: a3 :: a4 :: a5 :: a6 :: a7 :: a8 :: a9 :: a10 :: a11 :: a12 :: a13 :: a14 :: a15 :: a16 :: a17 :: a18 :: a19 :: a20 :: a21 :: a22 :: a23 :: a24 :: a25 :: t)[r + 26]? = some x := h
theorem sp26 {α : Type} {a0 a1 a2 a3 a4 a5 a6 a7 a8 a9 a10 a11 a12 a13 a14 a15 a16 a17 a18 a19 a20 a21 a22 a23 a24 a25 : α} {t t2 : List α} {y : α} {r : Nat} (h : t.set r y = t2) : (a0 :: a1 :: a2 :: a3 :: a4 :: a5 :: a6 :: a7 :: a8 :: a9 :: a10 :: a11 :: a12 :: a13 :: a14 :: a15 :: a16 :: a17 :: a18 :: a19 :: a20 :: a21 :: a22 :: a23 :: a24 :: a25 :: t).set (r + 26) y = a0 :: a1 :: a2 :: a3 :: a4 :: a5 :: a6 :: a7 :: a8 :: a9 :: a10 :: a11 :: a12 :: a13 :: a14 :: a15 :: a16 :: a17 :: a18 :: a19 :: a20 :: a21 :: a22 :: a23 :: a24 :: a25 :: t2 := by subst h; rfl
theorem gp27 {α : Type} {a0 a1 a2 a3 a4 a5 a6 a7 a8 a9 a10 a11 a12 a13 a14 a15 a16 a17 a18 a19 a20 a21 a22 a23 a24 a25 a26 : α} {t : List α} {x : α} {r : Nat} (h : t[r]? = some x) : (a0 :: a1 :: a2 :: a3 :: a4 :: a5 :: a6 :: a7 :: a8 :: a9 :: a10 :: a11 :: a12 :: a13 :: a14 :: a15 :: a16 :: a17 :: a18 :: a19 :: a20 :: a21 :: a22 :: a23 :: a24 :: a25 :: a26 :: t)[r + 27]? = some x := h
theorem sp27 {α : Type} {a0 a1 a2 a3 a4 a5 a6 a7 a8 a9 a10 a11 a12 a13 a14 a15 a16 a17 a18 a19 a20 a21 a22 a23 a24 a25 a26 : α} {t t2 : List α} {y : α} {r : Nat} (h : t.set r y = t2) : (a0 :: a1 :: a2 :: a3 :: a4 :: a5 :: a6 :: a7 :: a8 :: a9 :: a10 :: a11 :: a12 :: a13 :: a14 :: a15 :: a16 :: a17 :: a18 :: a19 :: a20 :: a21 :: a22 :: a23 :: a24 :: a25 :: a26 :: t).set (r + 27) y = a0 :: a1 :: a2 :: a3 :: a4 :: a5 :: a6 :: a7 :: a8 :: a9 :: a10 :: a11 :: a12 :: a13 :: a14 :: a15 :: a16 :: a17 :: a18 :: a19 :: a20 :: a21 :: a22 :: a23 :: a24 :: a25 :: a26 :: t2 := by subst h; rfl
theorem gp28 {α : Type} {a0 a1 a2 a3 a4 a5 a6 a7 a8 a9 a10 a11 a12 a13 a14 a15 a16 a17 a18 a19 a20 a21 a22 a23 a24 a25 a26 a27 : α} {t : List α} {x : α} {r : Nat} (h : t[r]? = some x) : (a0 :: a1 :: a2 :: a3 :: a4 :: a5 :: a6 :: a7 :: a8 :: a9 :: a10 :: a11 :: a12 :: a13 :: a14 :: a15 :: a16 :: a17 :: a18 :: a19 :: a20 :: a21 :: a22 :: a23 :: a24 :: a25 :: a26 :: a27 :: t)[r + 28]? = some x := h
theorem sp28 {α : Type} {a0 a1 a2 a3 a4 a5 a6 a7 a8 a9 a10 a11 a12 a13 a14 a15 a16 a17 a18 a19 a20 a21 a22 a23 a24 a25 a26 a27 : α} {t t2 : List α} {y : α} {r : Nat} (h : t.set r y = t2) : (a0 :: a1 :: a2 :: a3 :: a4 :: a5 :: a6 :: a7 :: a8 :: a9 :: a10 :: a11 :: a12 :: a13 :: a14 :: a15 :: a16 :: a17 :: a18 :: a19 :: a20 :: a21 :: a22 :: a23 :: a24 :: a25 :: a26 :: a27 :: t).set (r + 28) y = a0 :: a1 :: a2 :: a3 :: a4 :: a5 :: a6 :: a7 :: a8 :: a9 :: a10 :: a11 :: a12 :: a13 :: a14 :: a15 :: a16 :: a17 :: a18 :: a19 :: a20 :: a21 :: a22 :: a23 :: a24 :: a25 :: a26 :: a27 :: t2 := by subst h; rfl
theorem gp29 {α : Type} {a0 a1 a2 a3 a4 a5 a6 a7 a8 a9 a10 a11 a12 a13 a14 a15 a16 a17 a18 a19 a20 a21 a22 a23 a24 a25 a26 a27 a28 : α} {t : List α} {x : α} {r : Nat} (h : t[r]? = some x) : (a0 :: a1 :: a2 :: a3 :: a4 :: a5 :: a6 :: a7 :: a8 :: a9 :: a10 :: a11 :: a12 :: a13 :: a14 :: a15 :: a16 :: a17 :: a18 :: a19 :: a20 :: a21 :: a22 :: a23 :: a24 :: a25 :: a26 :: a27 :: a28 :: t)[r + 29]? = some x := h
theorem sp29 {α : Type} {a0 a1 a2 a3 a4 a5 a6 a7 a8 a9 a10 a11 a12 a13 a14 a15 a16 a17 a18 a19 a20 a21 a22 a23 a24 a25 a26 a27 a28 : α} {t t2 : List α} {y : α} {r : Nat} (h : t.set r y = t2) : (a0 :: a1 :: a2 :: a3 :: a4 :: a5 :: a6 :: a7 :: a8 :: a9 :: a10 :: a11 :: a12 :: a13 :: a14 :: a15 :: a16 :: a17 :: a18 :: a19 :: a20 :: a21 :: a22 :: a23 :: a24 :: a25 :: a26 :: a27 :: a28 :: t).set (r + 29) y = a0 :: a1 :: a2 :: a3 :: a4 :: a5 :: a6 :: a7 :: a8 :: a9 :: a10 :: a11 :: a12 :: a13 :: a14 :: a15 :: a16 :: a17 :: a18 :: a19 :: a20 :: a21 :: a22 :: a23 :: a24 :: a25 :: a26 :: a27 :: a28 :: t2 := by subst h; rfl
theorem gp30 {α : Type} {a0 a1 a2 a3 a4 a5 a6 a7 a8 a9 a10 a11 a12 a13 a14 a15 a16 a17 a18 a19 a20 a21 a22 a23 a24 a25 a26 a27 a28 a29 : α} {t : List α} {x : α} {r : Nat} (h : t[r]? = some x) : (a0 :: a1 :: a2 :: a3 :: a4 :: a5 :: a6 :: a7 :: a8 :: a9 :: a10 :: a11 :: a12 :: a13 :: a14 :: a15 :: a16 :: a17 :: a18 :: a19 :: a20 :: a21 :: a22 :: a23 :: a24 :: a25 :: a26 :: a27 :: a28 :: a29 :: t)[r + 30]? = some x := h
theorem sp30 {α : Type} {a0 a1 a2 a3 a4 a5 a6 a7 a8 a9 a10 a11 a12 a13 a14 a15 a16 a17 a18 a19 a20 a21 a22 a23 a24 a25 a26 a27 a28 a29 : α} {t t2 : List α} {y : α} {r : Nat} (h : t.set r y = t2) : (a0 :: a1 :: a2 :: a3 :: a4 :: a5 :: a6 :: a7 :: a8 :: a9 :: a10 :: a11 :: a12 :: a13 :: a14 :: a15 :: a16 :: a17 :: a18 :: a19 :: a20 :: a21 :: a22 :: a23 :: a24 :: a25 :: a26 :: a27 :: a28 :: a29 :: t).set (r + 30) y = a0 :: a1 :: a2 :: a3 :: a4 :: a5 :: a6 :: a7 :: a8 :: a9 :: a10 :: a11 :: a12 :: a13 :: a14 :: a15 :: a16 :: a17 :: a18 :: a19 :: a20 :: a21 :: a22 :: a23 :: a24 :: a25 :: a26 :: a27 :: a28 :: a29 :: t2 := by subst h; rfl
theorem gp31 {α : Type} {a0 a1 a2 a3 a4 a5 a6 a7 a8 a9 a10 a11 a12 a13 a14 a15 a16 a17 a18 a19 a20 a21 a22 a23 a24 a25 a26 a27 a28 a29 a30 : α} {t : List α} {x : α} {r : Nat} (h : t[r]? = some x) : (a0 :: a1 :: a2 :: a3 :: a4 :: a5 :: a6 :: a7 :: a8 :: a9 :: a10 :: a11 :: a12 :: a13 :: a14 :: a15 :: a16 :: a17 :: a18 :: a19 :: a20 :: a21 :: a22 :: a23 :: a24 :: a25 :: a26 :: a27 :: a28 :: a29 :: a30 :: t)[r + 31]? = some x := h
theorem sp31 {α : Type} {a0 a1 a2 a3 a4 a5 a6 a7 a8 a9 a10 a11 a12 a13 a14 a15 a16 a17 a18 a19 a20 a21 a22 a23 a24 a25 a26 a27 a28 a29 a30 : α} {t t2 : List α} {y : α} {r : Nat} (h : t.set r y = t2) : (a0 :: a1 :: a2 :: a3 :: a4 :: a5 :: a6 :: a7 :: a8 :: a9 :: a10 :: a11 :: a12 :: a13 :: a14 :: a15 :: a16 :: a17 :: a18 :: a19 :: a20 :: a21 :: a22 :: a23 :: a24 :: a25 :: a26 :: a27 :: a28 :: a29 :: a30 :: t).set (r + 31) y = a0 :: a1 :: a2 :: a3 :: a4 :: a5 :: a6 :: a7 :: a8 :: a9 :: a10 :: a11 :: a12 :: a13 :: a14 :: a15 :: a16 :: a17 :: a18 :: a19 :: a20 :: a21 :: a22 :: a23 :: a24 :: a25 :: a26 :: a27 :: a28 :: a29 :: a30 :: t2 := by subst h; rfl
theorem gp32 {α : Type} {a0 a1 a2 a3 a4 a5 a6 a7 a8 a9 a10 a11 a12 a13 a14 a15 a16 a17 a18 a19 a20 a21 a22 a23 a24 a25 a26 a27 a28 a29 a30 a31 : α} {t : List α} {x : α} {r : Nat} (h : t[r]? = some x) : (a0 :: a1 :: a2 :: a3 :: a4 :: a5 :: a6 :: a7 :: a8 :: a9 :: a10 :: a11 :: a12 :: a13 :: a14 :: a15 :: a16 :: a17 :: a18 :: a19 :: a20 :: a21 :: a22 :: a23 :: a24 :: a25 :: a26 :: a27 :: a28 :: a29 :: a30 :: a31 :: t)[r + 32]? = some x := h
theorem sp32 {α : Type} {a0 a1 a2 a3 a4 a5 a6 a7 a8 a9 a10 a11 a12 a13 a14 a15 a16 a17 a18 a19 a20 a21 a22 a23 a24 a25 a26 a27 a28 a29 a30 a31 : α} {t t2 : List α} {y : α} {r : Nat} (h : t.set r y = t2) : (a0 :: a1 :: a2 :: a3 :: a4 :: a5 :: a6 :: a7 :: a8 :: a9 :: a10 :: a11 :: a12 :: a13 :: a14 :: a15 :: a16 :: a17 :: a18 :: a19 :: a20 :: a21 :: a22 :: a23 :: a24 :: a25 :: a26 :: a27 :: a28 :: a29 :: a30 :: a31 :: t).set (r + 32) y = a0 :: a1 :: a2 :: a3 :: a4 :: a5 :: a6 :: a7 :: a8 :: a9 :: a10 :: a11 :: a12 :: a13 :: a14 :: a15 :: a16 :: a17 :: a18 :: a19 :: a20 :: a21 :: a22 :: a23 :: a24 :: a25 :: a26 :: a27 :: a28 :: a29 :: a30 :: a31 :: t2 := by subst h; rfl
theorem gp33 {α : Type} {a0 a1 a2 a3 a4 a5 a6 a7 a8 a9 a10 a11 a12 a13 a14 a15 a16 a17 a18 a19 a20 a21 a22 a23 a24 a25 a26 a27 a28 a29 a30 a31 a32 : α} {t : List α} {x : α} {r : Nat} (h : t[r]? = some x) : (a0 :: a1 :: a2 :: a3 :: a4 :: a5 :: a6 :: a7 :: a8 :: a9 :: a10 :: a11 :: a12 :: a13 :: a14 :: a15 :: a16 :: a17 :: a18 :: a19 :: a20 :: a21 :: a22 :: a23 :: a24 :: a25 :: a26 :: a27 :: a28 :: a29 :: a30 :: a31 :: a32 :: t)[r + 33]? = some x := h
theorem sp33 {α : Type} {a0 a1 a2 a3 a4 a5 a6 a7 a8 a9 a10 a11 a12 a13 a14 a15 a16 a17 a18 a19 a20 a21 a22 a23 a24 a25 a26 a27 a28 a29 a30 a31 a32 : α} {t t2 : List α} {y : α} {r : Nat} (h : t.set r y = t2) : (a0 :: a1 :: a2 :: a3 :: a4 :: a5 :: a6 :: a7 :: a8 :: a9 :: a10 :: a11 :: a12 :: a13 :: a14 :: a15 :: a16 :: a17 :: a18 :: a19 :: a20 :: a21 :: a22 :: a23 :: a24 :: a25 :: a26 :: a27 :: a28 :: a29 :: a30 :: a31 :: a32 :: t).set (r + 33) y = a0 :: a1 :: a2 :: a3 :: a4 :: a5 :: a6 :: a7 :: a8 :: a9 :: a10 :: a11 :: a12 :: a13 :: a14 :: a15 :: a16 :: a17 :: a18 :: a19 :: a20 :: a21 :: a22 :: a23 :: a24 :: a25 :: a26 :: a27 :: a28 :: a29 :: a30 :: a31 :: a32 :: t2 := by subst h; rfl
theorem gp34 {α : Type} {a0 a1 a2 a3 a4 a5 a6 a7 a8 a9 a10 a11 a12 a13 a14 a15 a16 a17 a18 a19 a20 a21 a22 a23 a24 a25 a26 a27 a28 a29 a30 a31 a32 a33 : α} {t : List α} {x : α} {r : Nat} (h : t[r]? = some x) : (a0 :: a1 :: a2 :: a3 :: a4 :: a5 :: a6 :: a7 :: a8 :: a9 :: a10 :: a11 :: a12 :: a13 :: a14 :: a15 :: a16 :: a17 :: a18 :: a19 :: a20 :: a21 :: a22 :: a23 :: a24 :: a25 :: a26 :: a27 :: a28 :: a29 :: a30 :: a31 :: a32 :: a33 :: t)[r + 34]? = some x := h
theorem sp34 {α : Type} {a0 a1 a2 a3 a4 a5 a6 a7 a8 a9 a10 a11 a12 a13 a14 a15 a16 a17 a18 a19 a20 a21 a22 a23 a24 a25 a26 a27 a28 a29 a30 a31 a32 a33 : α} {t t2 : List α} {y : α} {r : Nat} (h : t.set r y = t2) : (a0 :: a1 :: a2 :: a3 :: a4 :: a5 :: a6 :: a7 :: a8 :: a9 :: a10 :: a11 :: a12 :: a13 :: a14 :: a15 :: a16 :: a17 :: a18 :: a19 :: a20 :: a21 :: a22 :: a23 :: a24 :: a25 :: a26 :: a27 :: a28 :: a29 :: a30 :: a31 :: a32 :: a33 :: t).set (r + 34) y = a0 :: a1 :: a2 :: a3 :: a4 :: a5 :: a6 :: a7 :: a8 :: a9 :: a10 :: a11 :: a12 :: a13 :: a14 :: a15 :: a16 :: a17 :: a18 :: a19 :: a20 :: a21 :: a22 :: a23 :: a24 :: a25 :: a26 :: a27 :: a28 :: a29 :: a30 :: a31 :: a32 :: a33 :: t2 := by subst h; rfl
theorem gp35 {α : Type} {a0 a1 a2 a3 a4 a5 a6 a7 a8 a9 a10 a11 a12 a13 a14 a15 a16 a17 a18 a19 a20 a21 a22 a23 a24 a25 a26 a27 a28 a29 a30 a31 a32 a33 a34 : α} {t : List α} {x : α} {r : Nat} (h : t[r]? = some x) : (a0 :: a1 :: a2 :: a3 :: a4 :: a5 :: a6 :: a7 :: a8 :: a9 :: a10 :: a11 :: a12 :: a13 :: a14 :: a15 :: a16 :: a17 :: a18 :: a19 :: a20 :: a21 :: a22 :: a23 :: a24 :: a25 :: a26 :: a27 :: a28 :: a29 :: a30 :: a31 :: a32 :: a33 :: a34 :: t)[r + 35]? = some x := h
theorem sp35 {α : Type} {a0 a1 a2 a3 a4 a5 a6 a7 a8 a9 a10 a11 a12 a13 a14 a15 a16 a17 a18 a19 a20 a21 a22 a23 a24 a25 a26 a27 a28 a29 a30 a31 a32 a33 a34 : α} {t t2 : List α} {y : α} {r : Nat} (h : t.set r y = t2) : (a0 :: a1 :: a2 :: a3 :: a4 :: a5 :: a6 :: a7 :: a8 :: a9 :: a10 :: a11 :: a12 :: a13 :: a14 :: a15 :: a16 :: a17 :: a18 :: a19 :: a20 :: a21 :: a22 :: a23 :: a24 :: a25 :: a26 :: a27 :: a28 :: a29 :: a30 :: a31 :: a32 :: a33 :: a34 :: t).set (r + 35) y = a0 :: a1 :: a2 :: a3 :: a4 :: a5 :: a6 :: a7 :: a8 :: a9 :: a10 :: a11 :: a12 :: a13 :: a14 :: a15 :: a16 :: a17 :: a18 :: a19 :: a20 :: a21 :: a22 :: a23 :: a24 :: a25 :: a26 :: a27 :: a28 :: a29 :: a30 :: a31 :: a32 :: a33 :: a34 :: t2 := by subst h; rfl
theorem gp36 {α : Type} {a0 a1 a2 a3 a4 a5 a6 a7 a8 a9 a10 a11 a12 a13 a14 a15 a16 a17 a18 a19 a20 a21 a22 a23 a24 a25 a26 a27 a28 a29 a30 a31 a32 a33 a34 a35 : α} {t : List α} {x : α} {r : Nat} (h : t[r]? = some x) : (a0 :: a1 :: a2 :: a3 :: a4 :: a5 :: a6 :: a7 :: a8 :: a9 :: a10 :: a11 :: a12 :: a13 :: a14 :: a15 :: a16 :: a17 :: a18 :: a19 :: a20 :: a21 :: a22 :: a23 :: a24 :: a25 :: a26 :: a27 :: a28 :: a29 :: a30 :: a31 :: a32 :: a33 :: a34 :: a35 :: t)[r + 36]? = some x := h
theorem sp36 {α : Type} {a0 a1 a2 a3 a4 a5 a6 a7 a8 a9 a10 a11 a12 a13 a14 a15 a16 a17 a18 a19 a20 a21 a22 a23 a24 a25 a26 a27 a28 a29 a30 a31 a32 a33 a34 a35 : α} {t t2 : List α} {y : α} {r : Nat} (h : t.set r y = t2) : (a0 :: a1 :: a2 :: a3 :: a4 :: a5 :: a6 :: a7 :: a8 :: a9 :: a10 :: a11 :: a12 :: a13 :: a14 :: a15 :: a16 :: a17 :: a18 :: a19 :: a20 :: a21 :: a22 :: a23 :: a24 :: a25 :: a26 :: a27 :: a28 :: a29 :: a30 :: a31 :: a32 :: a33 :: a34 :: a35 :: t).set (r + 36) y = a0 :: a1 :: a2 :: a3 :: a4 :: a5 :: a6 :: a7 :: a8 :: a9 :: a10 :: a11 :: a12 :: a13 :: a14 :: a15 :: a16 :: a17 :: a18 :: a19 :: a20 :: a21 :: a22 :: a23 :: a24 :: a25 :: a26 :: a27 :: a28 :: a29 :: a30 :: a31 :: a32 :: a33 :: a34 :: a35 :: t2 := by subst h; rfl
theorem gp37 {α : Type} {a0 a1 a2 a3 a4 a5 a6 a7 a8 a9 a10 a11 a12 a13 a14 a15 a16 a17 a18 a19 a20 a21 a22 a23 a24 a25 a26 a27 a28 a29 a30 a31 a32 a33 a34 a35 a36 : α} {t : List α} {x : α} {r : Nat} (h : t[r]? = some x) : (a0 :: a1 :: a2 :: a3 :: a4 :: a5 :: a6 :: a7 :: a8 :: a9 :: a10 :: a11 :: a12 :: a13 :: a14 :: a15 :: a16 :: a17 :: a18 :: a19 :: a20 :: a21 :: a22 :: a23 :: a24 :: a25 :: a26 :: a27 :: a28 :: a29 :: a30 :: a31 :: a32 :: a33 :: a34 :: a35 :: a36 :: t)[r + 37]? = some x := h
theorem sp37 {α : Type} {a0 a1 a2 a3 a4 a5 a6 a7 a8 a9 a10 a11 a12 a13 a14 a15 a16 a17 a18 a19 a20 a21 a22 a23 a24 a25 a26 a27 a28 a29 a30 a31 a32 a33 a34 a35 a36 : α} {t t2 : List α} {y : α} {r : Nat} (h : t.set r y = t2) : (a0 :: a1 :: a2 :: a3 :: a4 :: a5 :: a6 :: a7 :: a8 :: a9 :: a10 :: a11 :: a12 :: a13 :: a14 :: a15 :: a16 :: a17 :: a18 :: a19 :: a20 :: a21 :: a22 :: a23 :: a24 :: a25 :: a26 :: a27 :: a28 :: a29 :: a30 :: a31 :: a32 :: a33 :: a34 :: a35 :: a36 :: t).set (r + 37) y = a0 :: a1 :: a2 :: a3 :: a4 :: a5 :: a6 :: a7 :: a8 :: a9 :: a10 :: a11 :: a12 :: a13 :: a14 :: a15 :: a16 :: a17 :: a18 :: a19 :: a20 :: a21 :: a22 :: a23 :: a24 :: a25 :: a26 :: a27 :: a28 :: a29 :: a30 :: a31 :: a32 :: a33 :: a34 :: a35 :: a36 :: t2 := by subst h; rfl
theorem gp38 {α : Type} {a0 a1 a2 a3 a4 a5 a6 a7 a8 a9 a10 a11 a12 a13 a14 a15 a16 a17 a18 a19 a20 a21 a22 a23 a24 a25 a26 a27 a28 a29 a30 a31 a32 a33 a34 a35 a36 a37 : α} {t : List α} {x : α} {r : Nat} (h : t[r]? = some x) : (a0 :: a1 :: a2 :: a3 :: a4 :: a5 :: a6 :: a7 :: a8 :: a9 :: a10 :: a11 :: a12 :: a13 :: a14 :: a15 :: a16 :: a17 :: a18 :: a19 :: a20 :: a21 :: a22 :: a23 :: a24 :: a25 :: a26 :: a27 :: a28 :: a29 :: a30 :: a31 :: a32 :: a33 :: a34 :: a35 :: a36 :: a37 :: t)[r + 38]? = some x := h
theorem sp38 {α : Type} {a0 a1 a2 a3 a4 a5 a6 a7 a8 a9 a10 a11 a12 a13 a14 a15 a16 a17 a18 a19 a20 a21 a22 a23 a24 a25 a26 a27 a28 a29 a30 a31 a32 a33 a34 a35 a36 a37 : α} {t t2 : List α} {y : α} {r : Nat} (h : t.set r y = t2) : (a0 :: a1 :: a2 :: a3 :: a4 :: a5 :: a6 :: a7 :: a8 :: a9 :: a10 :: a11 :: a12 :: a13 :: a14 :: a15 :: a16 :: a17 :: a18 :: a19 :: a20 :: a21 :: a22 :: a23 :: a24 :: a25 :: a26 :: a27 :: a28 :: a29 :: a30 :: a31 :: a32 :: a33 :: a34 :: a35 :: a36 :: a37 :: t).set (r + 38) y = a0 :: a1 :: a2 :: a3 :: a4 :: a5 :: a6 :: a7 :: a8 :: a9 :: a10 :: a11 :: a12 :: a13 :: a14 :: a15 :: a16 :: a17 :: a18 :: a19 :: a20 :: a21 :: a22 :: a23 :: a24 :: a25 :: a26 :: a27 :: a28 :: a29 :: a30 :: a31 :: a32 :: a33 :: a34 :: a35 :: a36 :: a37 :: t2 := by subst h; rfl
theorem gp39 {α : Type} {a0 a1 a2 a3 a4 a5 a6 a7 a8 a9 a10 a11 a12 a13 a14 a15 a16 a17 a18 a19 a20 a21 a22 a23 a24 a25 a26 a27 a28 a29 a30 a31 a32 a33 a34 a35 a36 a37 a38 : α} {t : List α} {x : α} {r : Nat} (h : t[r]? = some x) : (a0 :: a1 :: a2 :: a3 :: a4 :: a5 :: a6 :: a7 :: a8 :: a9 :: a10 :: a11 :: a12 :: a13 :: a14 :: a15 :: a16 :: a17 :: a18 :: a19 :: a20 :: a21 :: a22 :: a23 :: a24 :: a25 :: a26 :: a27 :: a28 :: a29 :: a30 :: a31 :: a32 :: a33 :: a34 :: a35 :: a36 :: a37 :: a38 :: t)[r + 39]? = some x := h
theorem sp39 {α : Type} {a0 a1 a2 a3 a4 a5 a6 a7 a8 a9 a10 a11 a12 a13 a14 a15 a16 a17 a18 a19 a20 a21 a22 a23 a24 a25 a26 a27 a28 a29 a30 a31 a32 a33 a34 a35 a36 a37 a38 : α} {t t2 : List α} {y : α} {r : Nat} (h : t.set r y = t2) : (a0 :: a1 :: a2 :: a3 :: a4 :: a5 :: a6 :: a7 :: a8 :: a9 :: a10 :: a11 :: a12 :: a13 :: a14 :: a15 :: a16 :: a17 :: a18 :: a19 :: a20 :: a21 :: a22 :: a23 :: a24 :: a25 :: a26 :: a27 :: a28 :: a29 :: a30 :: a31 :: a32 :: a33 :: a34 :: a35 :: a36 :: a37 :: a38 :: t).set (r + 39) y = a0 :: a1 :: a2 :: a3 :: a4 :: a5 :: a6 :: a7 :: a8 :: a9 :: a10 :: a11 :: a12 :: a13 :: a14 :: a15 :: a16 :: a17 :: a18 :: a19 :: a20 :: a21 :: a22 :: a23 :: a24 :: a25 :: a26 :: a27 :: a28 :: a29 :: a30 :: a31 :: a32 :: a33 :: a34 :: a35 :: a36 :: a37 :: a38 :: t2 := by subst h; rfl
theorem pk_tail : ∀ (pre t : va_W), Pk (List.range' pre.length t.length) (pre ++ t) t := by
  intro pre t
  unfold Pk
  apply List.ext_getElem?
  intro j
  rw [List.getElem?_map, List.getElem?_map]
  by_cases hj : j < t.length
  · rw [List.getElem?_range' hj]
    show some ((pre ++ t)[pre.length + 1 * j]?) = _
    rw [List.getElem?_append_right (by omega), show pre.length + 1 * j - pre.length = j by omega, List.getElem?_eq_getElem hj]
    rfl
  · rw [List.getElem?_eq_none (by rw [List.length_range']; omega), List.getElem?_eq_none (by omega)]
    rfl
theorem sm_tail : ∀ (t t2 pre : va_W), t.length = t2.length → Sm (pre ++ t) (List.range' pre.length t.length) t2 (pre ++ t2)
  | [], [], pre, _ => rfl
  | [], _ :: _, _, h => by cases h
  | _ :: _, [], _, h => by cases h
  | x :: t, y :: t2, pre, h => by
    show Sm ((pre ++ x :: t).set pre.length y) (List.range' (pre.length + 1) t.length) t2 _
    have e := sm_tail t t2 (pre ++ [y]) (by simpa using h)
    rw [List.length_append, List.append_assoc, List.append_assoc] at e
    have e2 : (pre ++ x :: t).set pre.length y = pre ++ y :: t := by
      rw [List.set_append_right _ _ (Nat.le_refl _), Nat.sub_self]
      rfl
    rw [e2]
    exact e
theorem nd_c {a : Nat} {l : List Nat} (h : a ∉ l) (t : va_nd l = true) : va_nd (a :: l) = true := by
  unfold va_nd
  rw [decide_eq_true h, t]
  rfl
theorem nd_n : va_nd [] = true := rfl
theorem pt1 {a0 : Nat × va_E} {ra : Int → Nat} {P S E T U : Int → Int} : Pk (List.range' 1 100) (a0 :: raysW ra P S E T U) (raysW ra P S E T U) := by
  have e := pk_tail [a0] (raysW ra P S E T U)
  rw [rays_len] at e
  exact e
theorem stl1 {a0 : Nat × va_E} {ra : Int → Nat} {P S E T U P' S' E' T' U' : Int → Int} : Sm (a0 :: raysW ra P S E T U) (List.range' 1 100) (raysW ra P' S' E' T' U') (a0 :: raysW ra P' S' E' T' U') := by
  have e := sm_tail (raysW ra P S E T U) (raysW ra P' S' E' T' U') [a0] (by rw [rays_len, rays_len])
  rw [rays_len] at e
  exact e
theorem pt2 {a0 a1 : Nat × va_E} {ra : Int → Nat} {P S E T U : Int → Int} : Pk (List.range' 2 100) (a0 :: a1 :: raysW ra P S E T U) (raysW ra P S E T U) := by
  have e := pk_tail [a0, a1] (raysW ra P S E T U)
  rw [rays_len] at e
  exact e
theorem stl2 {a0 a1 : Nat × va_E} {ra : Int → Nat} {P S E T U P' S' E' T' U' : Int → Int} : Sm (a0 :: a1 :: raysW ra P S E T U) (List.range' 2 100) (raysW ra P' S' E' T' U') (a0 :: a1 :: raysW ra P' S' E' T' U') := by
  have e := sm_tail (raysW ra P S E T U) (raysW ra P' S' E' T' U') [a0, a1] (by rw [rays_len, rays_len])
  rw [rays_len] at e
  exact e
theorem pt3 {a0 a1 a2 : Nat × va_E} {ra : Int → Nat} {P S E T U : Int → Int} : Pk (List.range' 3 100) (a0 :: a1 :: a2 :: raysW ra P S E T U) (raysW ra P S E T U) := by
  have e := pk_tail [a0, a1, a2] (raysW ra P S E T U)
  rw [rays_len] at e
  exact e
theorem stl3 {a0 a1 a2 : Nat × va_E} {ra : Int → Nat} {P S E T U P' S' E' T' U' : Int → Int} : Sm (a0 :: a1 :: a2 :: raysW ra P S E T U) (List.range' 3 100) (raysW ra P' S' E' T' U') (a0 :: a1 :: a2 :: raysW ra P' S' E' T' U') := by
  have e := sm_tail (raysW ra P S E T U) (raysW ra P' S' E' T' U') [a0, a1, a2] (by rw [rays_len, rays_len])
  rw [rays_len] at e
  exact e
theorem pt4 {a0 a1 a2 a3 : Nat × va_E} {ra : Int → Nat} {P S E T U : Int → Int} : Pk (List.range' 4 100) (a0 :: a1 :: a2 :: a3 :: raysW ra P S E T U) (raysW ra P S E T U) := by
  have e := pk_tail [a0, a1, a2, a3] (raysW ra P S E T U)
  rw [rays_len] at e
  exact e
theorem stl4 {a0 a1 a2 a3 : Nat × va_E} {ra : Int → Nat} {P S E T U P' S' E' T' U' : Int → Int} : Sm (a0 :: a1 :: a2 :: a3 :: raysW ra P S E T U) (List.range' 4 100) (raysW ra P' S' E' T' U') (a0 :: a1 :: a2 :: a3 :: raysW ra P' S' E' T' U') := by
  have e := sm_tail (raysW ra P S E T U) (raysW ra P' S' E' T' U') [a0, a1, a2, a3] (by rw [rays_len, rays_len])
  rw [rays_len] at e
  exact e
theorem pt5 {a0 a1 a2 a3 a4 : Nat × va_E} {ra : Int → Nat} {P S E T U : Int → Int} : Pk (List.range' 5 100) (a0 :: a1 :: a2 :: a3 :: a4 :: raysW ra P S E T U) (raysW ra P S E T U) := by
  have e := pk_tail [a0, a1, a2, a3, a4] (raysW ra P S E T U)
  rw [rays_len] at e
  exact e
theorem stl5 {a0 a1 a2 a3 a4 : Nat × va_E} {ra : Int → Nat} {P S E T U P' S' E' T' U' : Int → Int} : Sm (a0 :: a1 :: a2 :: a3 :: a4 :: raysW ra P S E T U) (List.range' 5 100) (raysW ra P' S' E' T' U') (a0 :: a1 :: a2 :: a3 :: a4 :: raysW ra P' S' E' T' U') := by
  have e := sm_tail (raysW ra P S E T U) (raysW ra P' S' E' T' U') [a0, a1, a2, a3, a4] (by rw [rays_len, rays_len])
  rw [rays_len] at e
  exact e
theorem pt6 {a0 a1 a2 a3 a4 a5 : Nat × va_E} {ra : Int → Nat} {P S E T U : Int → Int} : Pk (List.range' 6 100) (a0 :: a1 :: a2 :: a3 :: a4 :: a5 :: raysW ra P S E T U) (raysW ra P S E T U) := by
  have e := pk_tail [a0, a1, a2, a3, a4, a5] (raysW ra P S E T U)
  rw [rays_len] at e
  exact e
theorem stl6 {a0 a1 a2 a3 a4 a5 : Nat × va_E} {ra : Int → Nat} {P S E T U P' S' E' T' U' : Int → Int} : Sm (a0 :: a1 :: a2 :: a3 :: a4 :: a5 :: raysW ra P S E T U) (List.range' 6 100) (raysW ra P' S' E' T' U') (a0 :: a1 :: a2 :: a3 :: a4 :: a5 :: raysW ra P' S' E' T' U') := by
  have e := sm_tail (raysW ra P S E T U) (raysW ra P' S' E' T' U') [a0, a1, a2, a3, a4, a5] (by rw [rays_len, rays_len])
  rw [rays_len] at e
  exact e
theorem pt7 {a0 a1 a2 a3 a4 a5 a6 : Nat × va_E} {ra : Int → Nat} {P S E T U : Int → Int} : Pk (List.range' 7 100) (a0 :: a1 :: a2 :: a3 :: a4 :: a5 :: a6 :: raysW ra P S E T U) (raysW ra P S E T U) := by
  have e := pk_tail [a0, a1, a2, a3, a4, a5, a6] (raysW ra P S E T U)
  rw [rays_len] at e
  exact e
theorem stl7 {a0 a1 a2 a3 a4 a5 a6 : Nat × va_E} {ra : Int → Nat} {P S E T U P' S' E' T' U' : Int → Int} : Sm (a0 :: a1 :: a2 :: a3 :: a4 :: a5 :: a6 :: raysW ra P S E T U) (List.range' 7 100) (raysW ra P' S' E' T' U') (a0 :: a1 :: a2 :: a3 :: a4 :: a5 :: a6 :: raysW ra P' S' E' T' U') := by
  have e := sm_tail (raysW ra P S E T U) (raysW ra P' S' E' T' U') [a0, a1, a2, a3, a4, a5, a6] (by rw [rays_len, rays_len])
  rw [rays_len] at e
  exact e
theorem pt8 {a0 a1 a2 a3 a4 a5 a6 a7 : Nat × va_E} {ra : Int → Nat} {P S E T U : Int → Int} : Pk (List.range' 8 100) (a0 :: a1 :: a2 :: a3 :: a4 :: a5 :: a6 :: a7 :: raysW ra P S E T U) (raysW ra P S E T U) := by
  have e := pk_tail [a0, a1, a2, a3, a4, a5, a6, a7] (raysW ra P S E T U)
  rw [rays_len] at e
  exact e
theorem stl8 {a0 a1 a2 a3 a4 a5 a6 a7 : Nat × va_E} {ra : Int → Nat} {P S E T U P' S' E' T' U' : Int → Int} : Sm (a0 :: a1 :: a2 :: a3 :: a4 :: a5 :: a6 :: a7 :: raysW ra P S E T U) (List.range' 8 100) (raysW ra P' S' E' T' U') (a0 :: a1 :: a2 :: a3 :: a4 :: a5 :: a6 :: a7 :: raysW ra P' S' E' T' U') := by
  have e := sm_tail (raysW ra P S E T U) (raysW ra P' S' E' T' U') [a0, a1, a2, a3, a4, a5, a6, a7] (by rw [rays_len, rays_len])
  rw [rays_len] at e
  exact e
theorem pt9 {a0 a1 a2 a3 a4 a5 a6 a7 a8 : Nat × va_E} {ra : Int → Nat} {P S E T U : Int → Int} : Pk (List.range' 9 100) (a0 :: a1 :: a2 :: a3 :: a4 :: a5 :: a6 :: a7 :: a8 :: raysW ra P S E T U) (raysW ra P S E T U) := by
  have e := pk_tail [a0, a1, a2, a3, a4, a5, a6, a7, a8] (raysW ra P S E T U)
  rw [rays_len] at e
  exact e
theorem stl9 {a0 a1 a2 a3 a4 a5 a6 a7 a8 : Nat × va_E} {ra : Int → Nat} {P S E T U P' S' E' T' U' : Int → Int} : Sm (a0 :: a1 :: a2 :: a3 :: a4 :: a5 :: a6 :: a7 :: a8 :: raysW ra P S E T U) (List.range' 9 100) (raysW ra P' S' E' T' U') (a0 :: a1 :: a2 :: a3 :: a4 :: a5 :: a6 :: a7 :: a8 :: raysW ra P' S' E' T' U') := by
  have e := sm_tail (raysW ra P S E T U) (raysW ra P' S' E' T' U') [a0, a1, a2, a3, a4, a5, a6, a7, a8] (by rw [rays_len, rays_len])
  rw [rays_len] at e
  exact e
theorem pt10 {a0 a1 a2 a3 a4 a5 a6 a7 a8 a9 : Nat × va_E} {ra : Int → Nat} {P S E T U : Int → Int} : Pk (List.range' 10 100) (a0 :: a1 :: a2 :: a3 :: a4 :: a5 :: a6 :: a7 :: a8 :: a9 :: raysW ra P S E T U) (raysW ra P S E T U) := by
  have e := pk_tail [a0, a1, a2, a3, a4, a5, a6, a7, a8, a9] (raysW ra P S E T U)
  rw [rays_len] at e
  exact e
theorem stl10 {a0 a1 a2 a3 a4 a5 a6 a7 a8 a9 : Nat × va_E} {ra : Int → Nat} {P S E T U P' S' E' T' U' : Int → Int} : Sm (a0 :: a1 :: a2 :: a3 :: a4 :: a5 :: a6 :: a7 :: a8 :: a9 :: raysW ra P S E T U) (List.range' 10 100) (raysW ra P' S' E' T' U') (a0 :: a1 :: a2 :: a3 :: a4 :: a5 :: a6 :: a7 :: a8 :: a9 :: raysW ra P' S' E' T' U') := by
  have e := sm_tail (raysW ra P S E T U) (raysW ra P' S' E' T' U') [a0, a1, a2, a3, a4, a5, a6, a7, a8, a9] (by rw [rays_len, rays_len])
  rw [rays_len] at e
  exact e
theorem pt11 {a0 a1 a2 a3 a4 a5 a6 a7 a8 a9 a10 : Nat × va_E} {ra : Int → Nat} {P S E T U : Int → Int} : Pk (List.range' 11 100) (a0 :: a1 :: a2 :: a3 :: a4 :: a5 :: a6 :: a7 :: a8 :: a9 :: a10 :: raysW ra P S E T U) (raysW ra P S E T U) := by
  have e := pk_tail [a0, a1, a2, a3, a4, a5, a6, a7, a8, a9, a10] (raysW ra P S E T U)
  rw [rays_len] at e
  exact e
theorem stl11 {a0 a1 a2 a3 a4 a5 a6 a7 a8 a9 a10 : Nat × va_E} {ra : Int → Nat} {P S E T U P' S' E' T' U' : Int → Int} : Sm (a0 :: a1 :: a2 :: a3 :: a4 :: a5 :: a6 :: a7 :: a8 :: a9 :: a10 :: raysW ra P S E T U) (List.range' 11 100) (raysW ra P' S' E' T' U') (a0 :: a1 :: a2 :: a3 :: a4 :: a5 :: a6 :: a7 :: a8 :: a9 :: a10 :: raysW ra P' S' E' T' U') := by
  have e := sm_tail (raysW ra P S E T U) (raysW ra P' S' E' T' U') [a0, a1, a2, a3, a4, a5, a6, a7, a8, a9, a10] (by rw [rays_len, rays_len])
  rw [rays_len] at e
  exact e
theorem pt12 {a0 a1 a2 a3 a4 a5 a6 a7 a8 a9 a10 a11 : Nat × va_E} {ra : Int → Nat} {P S E T U : Int → Int} : Pk (List.range' 12 100) (a0 :: a1 :: a2 :: a3 :: a4 :: a5 :: a6 :: a7 :: a8 :: a9 :: a10 :: a11 :: raysW ra P S E T U) (raysW ra P S E T U) := by
  have e := pk_tail [a0, a1, a2, a3, a4, a5, a6, a7, a8, a9, a10, a11] (raysW ra P S E T U)
  rw [rays_len] at e
  exact e
theorem stl12 {a0 a1 a2 a3 a4 a5 a6 a7 a8 a9 a10 a11 : Nat × va_E} {ra : Int → Nat} {P S E T U P' S' E' T' U' : Int → Int} : Sm (a0 :: a1 :: a2 :: a3 :: a4 :: a5 :: a6 :: a7 :: a8 :: a9 :: a10 :: a11 :: raysW ra P S E T U) (List.range' 12 100) (raysW ra P' S' E' T' U') (a0 :: a1 :: a2 :: a3 :: a4 :: a5 :: a6 :: a7 :: a8 :: a9 :: a10 :: a11 :: raysW ra P' S' E' T' U') := by
  have e := sm_tail (raysW ra P S E T U) (raysW ra P' S' E' T' U') [a0, a1, a2, a3, a4, a5, a6, a7, a8, a9, a10, a11] (by rw [rays_len, rays_len])
  rw [rays_len] at e
  exact e
theorem pt13 {a0 a1 a2 a3 a4 a5 a6 a7 a8 a9 a10 a11 a12 : Nat × va_E} {ra : Int → Nat} {P S E T U : Int → Int} : Pk (List.range' 13 100) (a0 :: a1 :: a2 :: a3 :: a4 :: a5 :: a6 :: a7 :: a8 :: a9 :: a10 :: a11 :: a12 :: raysW ra P S E T U) (raysW ra P S E T U) := by
  have e := pk_tail [a0, a1, a2, a3, a4, a5, a6, a7, a8, a9, a10, a11, a12] (raysW ra P S E T U)
  rw [rays_len] at e
  exact e
theorem stl13 {a0 a1 a2 a3 a4 a5 a6 a7 a8 a9 a10 a11 a12 : Nat × va_E} {ra : Int → Nat} {P S E T U P' S' E' T' U' : Int → Int} : Sm (a0 :: a1 :: a2 :: a3 :: a4 :: a5 :: a6 :: a7 :: a8 :: a9 :: a10 :: a11 :: a12 :: raysW ra P S E T U) (List.range' 13 100) (raysW ra P' S' E' T' U') (a0 :: a1 :: a2 :: a3 :: a4 :: a5 :: a6 :: a7 :: a8 :: a9 :: a10 :: a11 :: a12 :: raysW ra P' S' E' T' U') := by
  have e := sm_tail (raysW ra P S E T U) (raysW ra P' S' E' T' U') [a0, a1, a2, a3, a4, a5, a6, a7, a8, a9, a10, a11, a12] (by rw [rays_len, rays_len])
  rw [rays_len] at e
  exact e
theorem pt14 {a0 a1 a2 a3 a4 a5 a6 a7 a8 a9 a10 a11 a12 a13 : Nat × va_E} {ra : Int → Nat} {P S E T U : Int → Int} : Pk (List.range' 14 100) (a0 :: a1 :: a2 :: a3 :: a4 :: a5 :: a6 :: a7 :: a8 :: a9 :: a10 :: a11 :: a12 :: a13 :: raysW ra P S E T U) (raysW ra P S E T U) := by
  have e := pk_tail [a0, a1, a2, a3, a4, a5, a6, a7, a8, a9, a10, a11, a12, a13] (raysW ra P S E T U)
  rw [rays_len] at e
  exact e
theorem stl14 {a0 a1 a2 a3 a4 a5 a6 a7 a8 a9 a10 a11 a12 a13 : Nat × va_E} {ra : Int → Nat} {P S E T U P' S' E' T' U' : Int → Int} : Sm (a0 :: a1 :: a2 :: a3 :: a4 :: a5 :: a6 :: a7 :: a8 :: a9 :: a10 :: a11 :: a12 :: a13 :: raysW ra P S E T U) (List.range' 14 100) (raysW ra P' S' E' T' U') (a0 :: a1 :: a2 :: a3 :: a4 :: a5 :: a6 :: a7 :: a8 :: a9 :: a10 :: a11 :: a12 :: a13 :: raysW ra P' S' E' T' U') := by
  have e := sm_tail (raysW ra P S E T U) (raysW ra P' S' E' T' U') [a0, a1, a2, a3, a4, a5, a6, a7, a8, a9, a10, a11, a12, a13] (by rw [rays_len, rays_len])
  rw [rays_len] at e
  exact e
theorem pt15 {a0 a1 a2 a3 a4 a5 a6 a7 a8 a9 a10 a11 a12 a13 a14 : Nat × va_E} {ra : Int → Nat} {P S E T U : Int → Int} : Pk (List.range' 15 100) (a0 :: a1 :: a2 :: a3 :: a4 :: a5 :: a6 :: a7 :: a8 :: a9 :: a10 :: a11 :: a12 :: a13 :: a14 :: raysW ra P S E T U) (raysW ra P S E T U) := by
  have e := pk_tail [a0, a1, a2, a3, a4, a5, a6, a7, a8, a9, a10, a11, a12, a13, a14] (raysW ra P S E T U)
  rw [rays_len] at e
  exact e
theorem stl15 {a0 a1 a2 a3 a4 a5 a6 a7 a8 a9 a10 a11 a12 a13 a14 : Nat × va_E} {ra : Int → Nat} {P S E T U P' S' E' T' U' : Int → Int} : Sm (a0 :: a1 :: a2 :: a3 :: a4 :: a5 :: a6 :: a7 :: a8 :: a9 :: a10 :: a11 :: a12 :: a13 :: a14 :: raysW ra P S E T U) (List.range' 15 100) (raysW ra P' S' E' T' U') (a0 :: a1 :: a2 :: a3 :: a4 :: a5 :: a6 :: a7 :: a8 :: a9 :: a10 :: a11 :: a12 :: a13 :: a14 :: raysW ra P' S' E' T' U') := by
  have e := sm_tail (raysW ra P S E T U) (raysW ra P' S' E' T' U') [a0, a1, a2, a3, a4, a5, a6, a7, a8, a9, a10, a11, a12, a13, a14] (by rw [rays_len, rays_len])
  rw [rays_len] at e
  exact e
theorem pt16 {a0 a1 a2 a3 a4 a5 a6 a7 a8 a9 a10 a11 a12 a13 a14 a15 : Nat × va_E} {ra : Int → Nat} {P S E T U : Int → Int} : Pk (List.range' 16 100) (a0 :: a1 :: a2 :: a3 :: a4 :: a5 :: a6 :: a7 :: a8 :: a9 :: a10 :: a11 :: a12 :: a13 :: a14 :: a15 :: raysW ra P S E T U) (raysW ra P S E T U) := by
  have e := pk_tail [a0, a1, a2, a3, a4, a5, a6, a7, a8, a9, a10, a11, a12, a13, a14, a15] (raysW ra P S E T U)
  rw [rays_len] at e
  exact e
theorem stl16 {a0 a1 a2 a3 a4 a5 a6 a7 a8 a9 a10 a11 a12 a13 a14 a15 : Nat × va_E} {ra : Int → Nat} {P S E T U P' S' E' T' U' : Int → Int} : Sm (a0 :: a1 :: a2 :: a3 :: a4 :: a5 :: a6 :: a7 :: a8 :: a9 :: a10 :: a11 :: a12 :: a13 :: a14 :: a15 :: raysW ra P S E T U) (List.range' 16 100) (raysW ra P' S' E' T' U') (a0 :: a1 :: a2 :: a3 :: a4 :: a5 :: a6 :: a7 :: a8 :: a9 :: a10 :: a11 :: a12 :: a13 :: a14 :: a15 :: raysW ra P' S' E' T' U') := by
  have e := sm_tail (raysW ra P S E T U) (raysW ra P' S' E' T' U') [a0, a1, a2, a3, a4, a5, a6, a7, a8, a9, a10, a11, a12, a13, a14, a15] (by rw [rays_len, rays_len])
  rw [rays_len] at e
  exact e
theorem pt17 {a0 a1 a2 a3 a4 a5 a6 a7 a8 a9 a10 a11 a12 a13 a14 a15 a16 : Nat × va_E} {ra : Int → Nat} {P S E T U : Int → Int} : Pk (List.range' 17 100) (a0 :: a1 :: a2 :: a3 :: a4 :: a5 :: a6 :: a7 :: a8 :: a9 :: a10 :: a11 :: a12 :: a13 :: a14 :: a15 :: a16 :: raysW ra P S E T U) (raysW ra P S E T U) := by
  have e := pk_tail [a0, a1, a2, a3, a4, a5, a6, a7, a8, a9, a10, a11, a12, a13, a14, a15, a16] (raysW ra P S E T U)
  rw [rays_len] at e
  exact e
theorem stl17 {a0 a1 a2 a3 a4 a5 a6 a7 a8 a9 a10 a11 a12 a13 a14 a15 a16 : Nat × va_E} {ra : Int → Nat} {P S E T U P' S' E' T' U' : Int → Int} : Sm (a0 :: a1 :: a2 :: a3 :: a4 :: a5 :: a6 :: a7 :: a8 :: a9 :: a10 :: a11 :: a12 :: a13 :: a14 :: a15 :: a16 :: raysW ra P S E T U) (List.range' 17 100) (raysW ra P' S' E' T' U') (a0 :: a1 :: a2 :: a3 :: a4 :: a5 :: a6 :: a7 :: a8 :: a9 :: a10 :: a11 :: a12 :: a13 :: a14 :: a15 :: a16 :: raysW ra P' S' E' T' U') := by
  have e := sm_tail (raysW ra P S E T U) (raysW ra P' S' E' T' U') [a0, a1, a2, a3, a4, a5, a6, a7, a8, a9, a10, a11, a12, a13, a14, a15, a16] (by rw [rays_len, rays_len])
  rw [rays_len] at e
  exact e
theorem pt18 {a0 a1 a2 a3 a4 a5 a6 a7 a8 a9 a10 a11 a12 a13 a14 a15 a16 a17 : Nat × va_E} {ra : Int → Nat} {P S E T U : Int → Int} : Pk (List.range' 18 100) (a0 :: a1 :: a2 :: a3 :: a4 :: a5 :: a6 :: a7 :: a8 :: a9 :: a10 :: a11 :: a12 :: a13 :: a14 :: a15 :: a16 :: a17 :: raysW ra P S E T U) (raysW ra P S E T U) := by
  have e := pk_tail [a0, a1, a2, a3, a4, a5, a6, a7, a8, a9, a10, a11, a12, a13, a14, a15, a16, a17] (raysW ra P S E T U)
  rw [rays_len] at e
  exact e
theorem stl18 {a0 a1 a2 a3 a4 a5 a6 a7 a8 a9 a10 a11 a12 a13 a14 a15 a16 a17 : Nat × va_E} {ra : Int → Nat} {P S E T U P' S' E' T' U' : Int → Int} : Sm (a0 :: a1 :: a2 :: a3 :: a4 :: a5 :: a6 :: a7 :: a8 :: a9 :: a10 :: a11 :: a12 :: a13 :: a14 :: a15 :: a16 :: a17 :: raysW ra P S E T U) (List.range' 18 100) (raysW ra P' S' E' T' U') (a0 :: a1 :: a2 :: a3 :: a4 :: a5 :: a6 :: a7 :: a8 :: a9 :: a10 :: a11 :: a12 :: a13 :: a14 :: a15 :: a16 :: a17 :: raysW ra P' S' E' T' U') := by
  have e := sm_tail (raysW ra P S E T U) (raysW ra P' S' E' T' U') [a0, a1, a2, a3, a4, a5, a6, a7, a8, a9, a10, a11, a12, a13, a14, a15, a16, a17] (by rw [rays_len, rays_len])
  rw [rays_len] at e
  exact e
theorem pt19 {a0 a1 a2 a3 a4 a5 a6 a7 a8 a9 a10 a11 a12 a13 a14 a15 a16 a17 a18 : Nat × va_E} {ra : Int → Nat} {P S E T U : Int → Int} : Pk (List.range' 19 100) (a0 :: a1 :: a2 :: a3 :: a4 :: a5 :: a6 :: a7 :: a8 :: a9 :: a10 :: a11 :: a12 :: a13 :: a14 :: a15 :: a16 :: a17 :: a18 :: raysW ra P S E T U) (raysW ra P S E T U) := by
  have e := pk_tail [a0, a1, a2, a3, a4, a5, a6, a7, a8, a9, a10, a11, a12, a13, a14, a15, a16, a17, a18] (raysW ra P S E T U)
  rw [rays_len] at e
  exact e
theorem stl19 {a0 a1 a2 a3 a4 a5 a6 a7 a8 a9 a10 a11 a12 a13 a14 a15 a16 a17 a18 : Nat × va_E} {ra : Int → Nat} {P S E T U P' S' E' T' U' : Int → Int} : Sm (a0 :: a1 :: a2 :: a3 :: a4 :: a5 :: a6 :: a7 :: a8 :: a9 :: a10 :: a11 :: a12 :: a13 :: a14 :: a15 :: a16 :: a17 :: a18 :: raysW ra P S E T U) (List.range' 19 100) (raysW ra P' S' E' T' U') (a0 :: a1 :: a2 :: a3 :: a4 :: a5 :: a6 :: a7 :: a8 :: a9 :: a10 :: a11 :: a12 :: a13 :: a14 :: a15 :: a16 :: a17 :: a18 :: raysW ra P' S' E' T' U') := by
  have e := sm_tail (raysW ra P S E T U) (raysW ra P' S' E' T' U') [a0, a1, a2, a3, a4, a5, a6, a7, a8, a9, a10, a11, a12, a13, a14, a15, a16, a17, a18] (by rw [rays_len, rays_len])
  rw [rays_len] at e
  exact e
theorem pt20 {a0 a1 a2 a3 a4 a5 a6 a7 a8 a9 a10 a11 a12 a13 a14 a15 a16 a17 a18 a19 : Nat × va_E} {ra : Int → Nat} {P S E T U : Int → Int} : Pk (List.range' 20 100) (a0 :: a1 :: a2 :: a3 :: a4 :: a5 :: a6 :: a7 :: a8 :: a9 :: a10 :: a11 :: a12 :: a13 :: a14 :: a15 :: a16 :: a17 :: a18 :: a19 :: raysW ra P S E T U) (raysW ra P S E T U) := by
  have e := pk_tail [a0, a1, a2, a3, a4, a5, a6, a7, a8, a9, a10, a11, a12, a13, a14, a15, a16, a17, a18, a19] (raysW ra P S E T U)
  rw [rays_len] at e
  exact e
theorem stl20 {a0 a1 a2 a3 a4 a5 a6 a7 a8 a9 a10 a11 a12 a13 a14 a15 a16 a17 a18 a19 : Nat × va_E} {ra : Int → Nat} {P S E T U P' S' E' T' U' : Int → Int} : Sm (a0 :: a1 :: a2 :: a3 :: a4 :: a5 :: a6 :: a7 :: a8 :: a9 :: a10 :: a11 :: a12 :: a13 :: a14 :: a15 :: a16 :: a17 :: a18 :: a19 :: raysW ra P S E T U) (List.range' 20 100) (raysW ra P' S' E' T' U') (a0 :: a1 :: a2 :: a3 :: a4 :: a5 :: a6 :: a7 :: a8 :: a9 :: a10 :: a11 :: a12 :: a13 :: a14 :: a15 :: a16 :: a17 :: a18 :: a19 :: raysW ra P' S' E' T' U') := by
  have e := sm_tail (raysW ra P S E T U) (raysW ra P' S' E' T' U') [a0, a1, a2, a3, a4, a5, a6, a7, a8, a9, a10, a11, a12, a13, a14, a15, a16, a17, a18, a19] (by rw [rays_len, rays_len])
  rw [rays_len] at e
  exact e
theorem pt21 {a0 a1 a2 a3 a4 a5 a6 a7 a8 a9 a10 a11 a12 a13 a14 a15 a16 a17 a18 a19 a20 : Nat × va_E} {ra : Int → Nat} {P S E T U : Int → Int} : Pk (List.range' 21 100) (a0 :: a1 :: a2 :: a3 :: a4 :: a5 :: a6 :: a7 :: a8 :: a9 :: a10 :: a11 :: a12 :: a13 :: a14 :: a15 :: a16 :: a17 :: a18 :: a19 :: a20 :: raysW ra P S E T U) (raysW ra P S E T U) := by
  have e := pk_tail [a0, a1, a2, a3, a4, a5, a6, a7, a8, a9, a10, a11, a12, a13, a14, a15, a16, a17, a18, a19, a20] (raysW ra P S E T U)
  rw [rays_len] at e
  exact e
theorem stl21 {a0 a1 a2 a3 a4 a5 a6 a7 a8 a9 a10 a11 a12 a13 a14 a15 a16 a17 a18 a19 a20 : Nat × va_E} {ra : Int → Nat} {P S E T U P' S' E' T' U' : Int → Int} : Sm (a0 :: a1 :: a2 :: a3 :: a4 :: a5 :: a6 :: a7 :: a8 :: a9 :: a10 :: a11 :: a12 :: a13 :: a14 :: a15 :: a16 :: a17 :: a18 :: a19 :: a20 :: raysW ra P S E T U) (List.range' 21 100) (raysW ra P' S' E' T' U') (a0 :: a1 :: a2 :: a3 :: a4 :: a5 :: a6 :: a7 :: a8 :: a9 :: a10 :: a11 :: a12 :: a13 :: a14 :: a15 :: a16 :: a17 :: a18 :: a19 :: a20 :: raysW ra P' S' E' T' U') := by
  have e := sm_tail (raysW ra P S E T U) (raysW ra P' S' E' T' U') [a0, a1, a2, a3, a4, a5, a6, a7, a8, a9, a10, a11, a12, a13, a14, a15, a16, a17, a18, a19, a20] (by rw [rays_len, rays_len])
  rw [rays_len] at e
  exact e
theorem pt22 {a0 a1 a2 a3 a4 a5 a6 a7 a8 a9 a10 a11 a12 a13 a14 a15 a16 a17 a18 a19 a20 a21 : Nat × va_E} {ra : Int → Nat} {P S E T U : Int → Int} : Pk (List.range' 22 100) (a0 :: a1 :: a2 :: a3 :: a4 :: a5 :: a6 :: a7 :: a8 :: a9 :: a10 :: a11 :: a12 :: a13 :: a14 :: a15 :: a16 :: a17 :: a18 :: a19 :: a20 :: a21 :: raysW ra P S E T U) (raysW ra P S E T U) := by
  have e := pk_tail [a0, a1, a2, a3, a4, a5, a6, a7, a8, a9, a10, a11, a12, a13, a14, a15, a16, a17, a18, a19, a20, a21] (raysW ra P S E T U)
  rw [rays_len] at e
  exact e
theorem stl22 {a0 a1 a2 a3 a4 a5 a6 a7 a8 a9 a10 a11 a12 a13 a14 a15 a16 a17 a18 a19 a20 a21 : Nat × va_E} {ra : Int → Nat} {P S E T U P' S' E' T' U' : Int → Int} : Sm (a0 :: a1 :: a2 :: a3 :: a4 :: a5 :: a6 :: a7 :: a8 :: a9 :: a10 :: a11 :: a12 :: a13 :: a14 :: a15 :: a16 :: a17 :: a18 :: a19 :: a20 :: a21 :: raysW ra P S E T U) (List.range' 22 100) (raysW ra P' S' E' T' U') (a0 :: a1 :: a2 :: a3 :: a4 :: a5 :: a6 :: a7 :: a8 :: a9 :: a10 :: a11 :: a12 :: a13 :: a14 :: a15 :: a16 :: a17 :: a18 :: a19 :: a20 :: a21 :: raysW ra P' S' E' T' U') := by
  have e := sm_tail (raysW ra P S E T U) (raysW ra P' S' E' T' U') [a0, a1, a2, a3, a4, a5, a6, a7, a8, a9, a10, a11, a12, a13, a14, a15, a16, a17, a18, a19, a20, a21] (by rw [rays_len, rays_len])
  rw [rays_len] at e
  exact e
theorem pt23 {a0 a1 a2 a3 a4 a5 a6 a7 a8 a9 a10 a11 a12 a13 a14 a15 a16 a17 a18 a19 a20 a21 a22 : Nat × va_E} {ra : Int → Nat} {P S E T U : Int → Int} : Pk (List.range' 23 100) (a0 :: a1 :: a2 :: a3 :: a4 :: a5 :: a6 :: a7 :: a8 :: a9 :: a10 :: a11 :: a12 :: a13 :: a14 :: a15 :: a16 :: a17 :: a18 :: a19 :: a20 :: a21 :: a22 :: raysW ra P S E T U) (raysW ra P S E T U) := by
  have e := pk_tail [a0, a1, a2, a3, a4, a5, a6, a7, a8, a9, a10, a11, a12, a13, a14, a15, a16, a17, a18, a19, a20, a21, a22] (raysW ra P S E T U)
  rw [rays_len] at e
  exact e
theorem stl23 {a0 a1 a2 a3 a4 a5 a6 a7 a8 a9 a10 a11 a12 a13 a14 a15 a16 a17 a18 a19 a20 a21 a22 : Nat × va_E} {ra : Int → Nat} {P S E T U P' S' E' T' U' : Int → Int} : Sm (a0 :: a1 :: a2 :: a3 :: a4 :: a5 :: a6 :: a7 :: a8 :: a9 :: a10 :: a11 :: a12 :: a13 :: a14 :: a15 :: a16 :: a17 :: a18 :: a19 :: a20 :: a21 :: a22 :: raysW ra P S E T U) (List.range' 23 100) (raysW ra P' S' E' T' U') (a0 :: a1 :: a2 :: a3 :: a4 :: a5 :: a6 :: a7 :: a8 :: a9 :: a10 :: a11 :: a12 :: a13 :: a14 :: a15 :: a16 :: a17 :: a18 :: a19 :: a20 :: a21 :: a22 :: raysW ra P' S' E' T' U') := by
  have e := sm_tail (raysW ra P S E T U) (raysW ra P' S' E' T' U') [a0, a1, a2, a3, a4, a5, a6, a7, a8, a9, a10, a11, a12, a13, a14, a15, a16, a17, a18, a19, a20, a21, a22] (by rw [rays_len, rays_len])
  rw [rays_len] at e
  exact e
theorem pt24 {a0 a1 a2 a3 a4 a5 a6 a7 a8 a9 a10 a11 a12 a13 a14 a15 a16 a17 a18 a19 a20 a21 a22 a23 : Nat × va_E} {ra : Int → Nat} {P S E T U : Int → Int} : Pk (List.range' 24 100) (a0 :: a1 :: a2 :: a3 :: a4 :: a5 :: a6 :: a7 :: a8 :: a9 :: a10 :: a11 :: a12 :: a13 :: a14 :: a15 :: a16 :: a17 :: a18 :: a19 :: a20 :: a21 :: a22 :: a23 :: raysW ra P S E T U) (raysW ra P S E T U) := by
  have e := pk_tail [a0, a1, a2, a3, a4, a5, a6, a7, a8, a9, a10, a11, a12, a13, a14, a15, a16, a17, a18, a19, a20, a21, a22, a23] (raysW ra P S E T U)
  rw [rays_len] at e
  exact e
theorem stl24 {a0 a1 a2 a3 a4 a5 a6 a7 a8 a9 a10 a11 a12 a13 a14 a15 a16 a17 a18 a19 a20 a21 a22 a23 : Nat × va_E} {ra : Int → Nat} {P S E T U P' S' E' T' U' : Int → Int} : Sm (a0 :: a1 :: a2 :: a3 :: a4 :: a5 :: a6 :: a7 :: a8 :: a9 :: a10 :: a11 :: a12 :: a13 :: a14 :: a15 :: a16 :: a17 :: a18 :: a19 :: a20 :: a21 :: a22 :: a23 :: raysW ra P S E T U) (List.range' 24 100) (raysW ra P' S' E' T' U') (a0 :: a1 :: a2 :: a3 :: a4 :: a5 :: a6 :: a7 :: a8 :: a9 :: a10 :: a11 :: a12 :: a13 :: a14 :: a15 :: a16 :: a17 :: a18 :: a19 :: a20 :: a21 :: a22 :: a23 :: raysW ra P' S' E' T' U') := by
  have e := sm_tail (raysW ra P S E T U) (raysW ra P' S' E' T' U') [a0, a1, a2, a3, a4, a5, a6, a7, a8, a9, a10, a11, a12, a13, a14, a15, a16, a17, a18, a19, a20, a21, a22, a23] (by rw [rays_len, rays_len])
  rw [rays_len] at e
  exact e
theorem pt25 {a0 a1 a2 a3 a4 a5 a6 a7 a8 a9 a10 a11 a12 a13 a14 a15 a16 a17 a18 a19 a20 a21 a22 a23 a24 : Nat × va_E} {ra : Int → Nat} {P S E T U : Int → Int} : Pk (List.range' 25 100) (a0 :: a1 :: a2 :: a3 :: a4 :: a5 :: a6 :: a7 :: a8 :: a9 :: a10 :: a11 :: a12 :: a13 :: a14 :: a15 :: a16 :: a17 :: a18 :: a19 :: a20 :: a21 :: a22 :: a23 :: a24 :: raysW ra P S E T U) (raysW ra P S E T U) := by
  have e := pk_tail [a0, a1, a2, a3, a4, a5, a6, a7, a8, a9, a10, a11, a12, a13, a14, a15, a16, a17, a18, a19, a20, a21, a22, a23, a24] (raysW ra P S E T U)
  rw [rays_len] at e
  exact e
theorem stl25 {a0 a1 a2 a3 a4 a5 a6 a7 a8 a9 a10 a11 a12 a13 a14 a15 a16 a17 a18 a19 a20 a21 a22 a23 a24 : Nat × va_E} {ra : Int → Nat} {P S E T U P' S' E' T' U' : Int → Int} : Sm (a0 :: a1 :: a2 :: a3 :: a4 :: a5 :: a6 :: a7 :: a8 :: a9 :: a10 :: a11 :: a12 :: a13 :: a14 :: a15 :: a16 :: a17 :: a18 :: a19 :: a20 :: a21 :: a22 :: a23 :: a24 :: raysW ra P S E T U) (List.range' 25 100) (raysW ra P' S' E' T' U') (a0 :: a1 :: a2 :: a3 :: a4 :: a5 :: a6 :: a7 :: a8 :: a9 :: a10 :: a11 :: a12 :: a13 :: a14 :: a15 :: a16 :: a17 :: a18 :: a19 :: a20 :: a21 :: a22 :: a23 :: a24 :: raysW ra P' S' E' T' U') := by
  have e := sm_tail (raysW ra P S E T U) (raysW ra P' S' E' T' U') [a0, a1, a2, a3, a4, a5, a6, a7, a8, a9, a10, a11, a12, a13, a14, a15, a16, a17, a18, a19, a20, a21, a22, a23, a24] (by rw [rays_len, rays_len])
  rw [rays_len] at e
  exact e
theorem pt26 {a0 a1 a2 a3 a4 a5 a6 a7 a8 a9 a10 a11 a12 a13 a14 a15 a16 a17 a18 a19 a20 a21 a22 a23 a24 a25 : Nat × va_E} {ra : Int → Nat} {P S E T U : Int → Int} : Pk (List.range' 26 100) (a0 :: a1 :: a2 :: a3 :: a4 :: a5 :: a6 :: a7 :: a8 :: a9 :: a10 :: a11 :: a12 :: a13 :: a14 :: a15 :: a16 :: a17 :: a18 :: a19 :: a20 :: a21 :: a22 :: a23 :: a24 :: a25 :: raysW ra P S E T U) (raysW ra P S E T U) := by
  have e := pk_tail [a0, a1, a2, a3, a4, a5, a6, a7, a8, a9, a10, a11, a12, a13, a14, a15, a16, a17, a18, a19, a20, a21, a22, a23, a24, a25] (raysW ra P S E T U)
  rw [rays_len] at e
  exact e
theorem stl26 {a0 a1 a2 a3 a4 a5 a6 a7 a8 a9 a10 a11 a12 a13 a14 a15 a16 a17 a18 a19 a20 a21 a22 a23 a24 a25 : Nat × va_E} {ra : Int → Nat} {P S E T U P' S' E' T' U' : Int → Int} : Sm (a0 :: a1 :: a2 :: a3 :: a4 :: a5 :: a6 :: a7 :: a8 :: a9 :: a10 :: a11 :: a12 :: a13 :: a14 :: a15 :: a16 :: a17 :: a18 :: a19 :: a20 :: a21 :: a22 :: a23 :: a24 :: a25 :: raysW ra P S E T U) (List.range' 26 100) (raysW ra P' S' E' T' U') (a0 :: a1 :: a2 :: a3 :: a4 :: a5 :: a6 :: a7 :: a8 :: a9 :: a10 :: a11 :: a12 :: a13 :: a14 :: a15 :: a16 :: a17 :: a18 :: a19 :: a20 :: a21 :: a22 :: a23 :: a24 :: a25 :: raysW ra P' S' E' T' U') := by
  have e := sm_tail (raysW ra P S E T U) (raysW ra P' S' E' T' U') [a0, a1, a2, a3, a4, a5, a6, a7, a8, a9, a10, a11, a12, a13, a14, a15, a16, a17, a18, a19, a20, a21, a22, a23, a24, a25] (by rw [rays_len, rays_len])
  rw [rays_len] at e
  exact e
theorem pt27 {a0 a1 a2 a3 a4 a5 a6 a7 a8 a9 a10 a11 a12 a13 a14 a15 a16 a17 a18 a19 a20 a21 a22 a23 a24 a25 a26 : Nat × va_E} {ra : Int → Nat} {P S E T U : Int → Int} : Pk (List.range' 27 100) (a0 :: a1 :: a2 :: a3 :: a4 :: a5 :: a6 :: a7 :: a8 :: a9 :: a10 :: a11 :: a12 :: a13 :: a14 :: a15 :: a16 :: a17 :: a18 :: a19 :: a20 :: a21 :: a22 :: a23 :: a24 :: a25 :: a26 :: raysW ra P S E T U) (raysW ra P S E T U) := by
  have e := pk_tail [a0, a1, a2, a3, a4, a5, a6, a7, a8, a9, a10, a11, a12, a13, a14, a15, a16, a17, a18, a19, a20, a21, a22, a23, a24, a25, a26] (raysW ra P S E T U)
  rw [rays_len] at e
  exact e
theorem stl27 {a0 a1 a2 a3 a4 a5 a6 a7 a8 a9 a10 a11 a12 a13 a14 a15 a16 a17 a18 a19 a20 a21 a22 a23 a24 a25 a26 : Nat × va_E} {ra : Int → Nat} {P S E T U P' S' E' T' U' : Int → Int} : Sm (a0 :: a1 :: a2 :: a3 :: a4 :: a5 :: a6 :: a7 :: a8 :: a9 :: a10 :: a11 :: a12 :: a13 :: a14 :: a15 :: a16 :: a17 :: a18 :: a19 :: a20 :: a21 :: a22 :: a23 :: a24 :: a25 :: a26 :: raysW ra P S E T U) (List.range' 27 100) (raysW ra P' S' E' T' U') (a0 :: a1 :: a2 :: a3 :: a4 :: a5 :: a6 :: a7 :: a8 :: a9 :: a10 :: a11 :: a12 :: a13 :: a14 :: a15 :: a16 :: a17 :: a18 :: a19 :: a20 :: a21 :: a22 :: a23 :: a24 :: a25 :: a26 :: raysW ra P' S' E' T' U') := by
  have e := sm_tail (raysW ra P S E T U) (raysW ra P' S' E' T' U') [a0, a1, a2, a3, a4, a5, a6, a7, a8, a9, a10, a11, a12, a13, a14, a15, a16, a17, a18, a19, a20, a21, a22, a23, a24, a25, a26] (by rw [rays_len, rays_len])
  rw [rays_len] at e
  exact e
theorem pt28 {a0 a1 a2 a3 a4 a5 a6 a7 a8 a9 a10 a11 a12 a13 a14 a15 a16 a17 a18 a19 a20 a21 a22 a23 a24 a25 a26 a27 : Nat × va_E} {ra : Int → Nat} {P S E T U : Int → Int} : Pk (List.range' 28 100) (a0 :: a1 :: a2 :: a3 :: a4 :: a5 :: a6 :: a7 :: a8 :: a9 :: a10 :: a11 :: a12 :: a13 :: a14 :: a15 :: a16 :: a17 :: a18 :: a19 :: a20 :: a21 :: a22 :: a23 :: a24 :: a25 :: a26 :: a27 :: raysW ra P S E T U) (raysW ra P S E T U) := by
  have e := pk_tail [a0, a1, a2, a3, a4, a5, a6, a7, a8, a9, a10, a11, a12, a13, a14, a15, a16, a17, a18, a19, a20, a21, a22, a23, a24, a25, a26, a27] (raysW ra P S E T U)
  rw [rays_len] at e
  exact e
theorem stl28 {a0 a1 a2 a3 a4 a5 a6 a7 a8 a9 a10 a11 a12 a13 a14 a15 a16 a17 a18 a19 a20 a21 a22 a23 a24 a25 a26 a27 : Nat × va_E} {ra : Int → Nat} {P S E T U P' S' E' T' U' : Int → Int} : Sm (a0 :: a1 :: a2 :: a3 :: a4 :: a5 :: a6 :: a7 :: a8 :: a9 :: a10 :: a11 :: a12 :: a13 :: a14 :: a15 :: a16 :: a17 :: a18 :: a19 :: a20 :: a21 :: a22 :: a23 :: a24 :: a25 :: a26 :: a27 :: raysW ra P S E T U) (List.range' 28 100) (raysW ra P' S' E' T' U') (a0 :: a1 :: a2 :: a3 :: a4 :: a5 :: a6 :: a7 :: a8 :: a9 :: a10 :: a11 :: a12 :: a13 :: a14 :: a15 :: a16 :: a17 :: a18 :: a19 :: a20 :: a21 :: a22 :: a23 :: a24 :: a25 :: a26 :: a27 :: raysW ra P' S' E' T' U') := by
  have e := sm_tail (raysW ra P S E T U) (raysW ra P' S' E' T' U') [a0, a1, a2, a3, a4, a5, a6, a7, a8, a9, a10, a11, a12, a13, a14, a15, a16, a17, a18, a19, a20, a21, a22, a23, a24, a25, a26, a27] (by rw [rays_len, rays_len])
  rw [rays_len] at e
  exact e
theorem pt29 {a0 a1 a2 a3 a4 a5 a6 a7 a8 a9 a10 a11 a12 a13 a14 a15 a16 a17 a18 a19 a20 a21 a22 a23 a24 a25 a26 a27 a28 : Nat × va_E} {ra : Int → Nat} {P S E T U : Int → Int} : Pk (List.range' 29 100) (a0 :: a1 :: a2 :: a3 :: a4 :: a5 :: a6 :: a7 :: a8 :: a9 :: a10 :: a11 :: a12 :: a13 :: a14 :: a15 :: a16 :: a17 :: a18 :: a19 :: a20 :: a21 :: a22 :: a23 :: a24 :: a25 :: a26 :: a27 :: a28 :: raysW ra P S E T U) (raysW ra P S E T U) := by
  have e := pk_tail [a0, a1, a2, a3, a4, a5, a6, a7, a8, a9, a10, a11, a12, a13, a14, a15, a16, a17, a18, a19, a20, a21, a22, a23, a24, a25, a26, a27, a28] (raysW ra P S E T U)
  rw [rays_len] at e
  exact e
theorem stl29 {a0 a1 a2 a3 a4 a5 a6 a7 a8 a9 a10 a11 a12 a13 a14 a15 a16 a17 a18 a19 a20 a21 a22 a23 a24 a25 a26 a27 a28 : Nat × va_E} {ra : Int → Nat} {P S E T U P' S' E' T' U' : Int → Int} : Sm (a0 :: a1 :: a2 :: a3 :: a4 :: a5 :: a6 :: a7 :: a8 :: a9 :: a10 :: a11 :: a12 :: a13 :: a14 :: a15 :: a16 :: a17 :: a18 :: a19 :: a20 :: a21 :: a22 :: a23 :: a24 :: a25 :: a26 :: a27 :: a28 :: raysW ra P S E T U) (List.range' 29 100) (raysW ra P' S' E' T' U') (a0 :: a1 :: a2 :: a3 :: a4 :: a5 :: a6 :: a7 :: a8 :: a9 :: a10 :: a11 :: a12 :: a13 :: a14 :: a15 :: a16 :: a17 :: a18 :: a19 :: a20 :: a21 :: a22 :: a23 :: a24 :: a25 :: a26 :: a27 :: a28 :: raysW ra P' S' E' T' U') := by
  have e := sm_tail (raysW ra P S E T U) (raysW ra P' S' E' T' U') [a0, a1, a2, a3, a4, a5, a6, a7, a8, a9, a10, a11, a12, a13, a14, a15, a16, a17, a18, a19, a20, a21, a22, a23, a24, a25, a26, a27, a28] (by rw [rays_len, rays_len])
  rw [rays_len] at e
  exact e
theorem pt30 {a0 a1 a2 a3 a4 a5 a6 a7 a8 a9 a10 a11 a12 a13 a14 a15 a16 a17 a18 a19 a20 a21 a22 a23 a24 a25 a26 a27 a28 a29 : Nat × va_E} {ra : Int → Nat} {P S E T U : Int → Int} : Pk (List.range' 30 100) (a0 :: a1 :: a2 :: a3 :: a4 :: a5 :: a6 :: a7 :: a8 :: a9 :: a10 :: a11 :: a12 :: a13 :: a14 :: a15 :: a16 :: a17 :: a18 :: a19 :: a20 :: a21 :: a22 :: a23 :: a24 :: a25 :: a26 :: a27 :: a28 :: a29 :: raysW ra P S E T U) (raysW ra P S E T U) := by
  have e := pk_tail [a0, a1, a2, a3, a4, a5, a6, a7, a8, a9, a10, a11, a12, a13, a14, a15, a16, a17, a18, a19, a20, a21, a22, a23, a24, a25, a26, a27, a28, a29] (raysW ra P S E T U)
  rw [rays_len] at e
  exact e
theorem stl30 {a0 a1 a2 a3 a4 a5 a6 a7 a8 a9 a10 a11 a12 a13 a14 a15 a16 a17 a18 a19 a20 a21 a22 a23 a24 a25 a26 a27 a28 a29 : Nat × va_E} {ra : Int → Nat} {P S E T U P' S' E' T' U' : Int → Int} : Sm (a0 :: a1 :: a2 :: a3 :: a4 :: a5 :: a6 :: a7 :: a8 :: a9 :: a10 :: a11 :: a12 :: a13 :: a14 :: a15 :: a16 :: a17 :: a18 :: a19 :: a20 :: a21 :: a22 :: a23 :: a24 :: a25 :: a26 :: a27 :: a28 :: a29 :: raysW ra P S E T U) (List.range' 30 100) (raysW ra P' S' E' T' U') (a0 :: a1 :: a2 :: a3 :: a4 :: a5 :: a6 :: a7 :: a8 :: a9 :: a10 :: a11 :: a12 :: a13 :: a14 :: a15 :: a16 :: a17 :: a18 :: a19 :: a20 :: a21 :: a22 :: a23 :: a24 :: a25 :: a26 :: a27 :: a28 :: a29 :: raysW ra P' S' E' T' U') := by
  have e := sm_tail (raysW ra P S E T U) (raysW ra P' S' E' T' U') [a0, a1, a2, a3, a4, a5, a6, a7, a8, a9, a10, a11, a12, a13, a14, a15, a16, a17, a18, a19, a20, a21, a22, a23, a24, a25, a26, a27, a28, a29] (by rw [rays_len, rays_len])
  rw [rays_len] at e
  exact e
theorem pt31 {a0 a1 a2 a3 a4 a5 a6 a7 a8 a9 a10 a11 a12 a13 a14 a15 a16 a17 a18 a19 a20 a21 a22 a23 a24 a25 a26 a27 a28 a29 a30 : Nat × va_E} {ra : Int → Nat} {P S E T U : Int → Int} : Pk (List.range' 31 100) (a0 :: a1 :: a2 :: a3 :: a4 :: a5 :: a6 :: a7 :: a8 :: a9 :: a10 :: a11 :: a12 :: a13 :: a14 :: a15 :: a16 :: a17 :: a18 :: a19 :: a20 :: a21 :: a22 :: a23 :: a24 :: a25 :: a26 :: a27 :: a28 :: a29 :: a30 :: raysW ra P S E T U) (raysW ra P S E T U) := by
  have e := pk_tail [a0, a1, a2, a3, a4, a5, a6, a7, a8, a9, a10, a11, a12, a13, a14, a15, a16, a17, a18, a19, a20, a21, a22, a23, a24, a25, a26, a27, a28, a29, a30] (raysW ra P S E T U)
  rw [rays_len] at e
  exact e
theorem stl31 {a0 a1 a2 a3 a4 a5 a6 a7 a8 a9 a10 a11 a12 a13 a14 a15 a16 a17 a18 a19 a20 a21 a22 a23 a24 a25 a26 a27 a28 a29 a30 : Nat × va_E} {ra : Int → Nat} {P S E T U P' S' E' T' U' : Int → Int} : Sm (a0 :: a1 :: a2 :: a3 :: a4 :: a5 :: a6 :: a7 :: a8 :: a9 :: a10 :: a11 :: a12 :: a13 :: a14 :: a15 :: a16 :: a17 :: a18 :: a19 :: a20 :: a21 :: a22 :: a23 :: a24 :: a25 :: a26 :: a27 :: a28 :: a29 :: a30 :: raysW ra P S E T U) (List.range' 31 100) (raysW ra P' S' E' T' U') (a0 :: a1 :: a2 :: a3 :: a4 :: a5 :: a6 :: a7 :: a8 :: a9 :: a10 :: a11 :: a12 :: a13 :: a14 :: a15 :: a16 :: a17 :: a18 :: a19 :: a20 :: a21 :: a22 :: a23 :: a24 :: a25 :: a26 :: a27 :: a28 :: a29 :: a30 :: raysW ra P' S' E' T' U') := by
  have e := sm_tail (raysW ra P S E T U) (raysW ra P' S' E' T' U') [a0, a1, a2, a3, a4, a5, a6, a7, a8, a9, a10, a11, a12, a13, a14, a15, a16, a17, a18, a19, a20, a21, a22, a23, a24, a25, a26, a27, a28, a29, a30] (by rw [rays_len, rays_len])
  rw [rays_len] at e
  exact e
theorem pt32 {a0 a1 a2 a3 a4 a5 a6 a7 a8 a9 a10 a11 a12 a13 a14 a15 a16 a17 a18 a19 a20 a21 a22 a23 a24 a25 a26 a27 a28 a29 a30 a31 : Nat × va_E} {ra : Int → Nat} {P S E T U : Int → Int} : Pk (List.range' 32 100) (a0 :: a1 :: a2 :: a3 :: a4 :: a5 :: a6 :: a7 :: a8 :: a9 :: a10 :: a11 :: a12 :: a13 :: a14 :: a15 :: a16 :: a17 :: a18 :: a19 :: a20 :: a21 :: a22 :: a23 :: a24 :: a25 :: a26 :: a27 :: a28 :: a29 :: a30 :: a31 :: raysW ra P S E T U) (raysW ra P S E T U) := by
  have e := pk_tail [a0, a1, a2, a3, a4, a5, a6, a7, a8, a9, a10, a11, a12, a13, a14, a15, a16, a17, a18, a19, a20, a21, a22, a23, a24, a25, a26, a27, a28, a29, a30, a31] (raysW ra P S E T U)
  rw [rays_len] at e
  exact e
theorem stl32 {a0 a1 a2 a3 a4 a5 a6 a7 a8 a9 a10 a11 a12 a13 a14 a15 a16 a17 a18 a19 a20 a21 a22 a23 a24 a25 a26 a27 a28 a29 a30 a31 : Nat × va_E} {ra : Int → Nat} {P S E T U P' S' E' T' U' : Int → Int} : Sm (a0 :: a1 :: a2 :: a3 :: a4 :: a5 :: a6 :: a7 :: a8 :: a9 :: a10 :: a11 :: a12 :: a13 :: a14 :: a15 :: a16 :: a17 :: a18 :: a19 :: a20 :: a21 :: a22 :: a23 :: a24 :: a25 :: a26 :: a27 :: a28 :: a29 :: a30 :: a31 :: raysW ra P S E T U) (List.range' 32 100) (raysW ra P' S' E' T' U') (a0 :: a1 :: a2 :: a3 :: a4 :: a5 :: a6 :: a7 :: a8 :: a9 :: a10 :: a11 :: a12 :: a13 :: a14 :: a15 :: a16 :: a17 :: a18 :: a19 :: a20 :: a21 :: a22 :: a23 :: a24 :: a25 :: a26 :: a27 :: a28 :: a29 :: a30 :: a31 :: raysW ra P' S' E' T' U') := by
  have e := sm_tail (raysW ra P S E T U) (raysW ra P' S' E' T' U') [a0, a1, a2, a3, a4, a5, a6, a7, a8, a9, a10, a11, a12, a13, a14, a15, a16, a17, a18, a19, a20, a21, a22, a23, a24, a25, a26, a27, a28, a29, a30, a31] (by rw [rays_len, rays_len])
  rw [rays_len] at e
  exact e
theorem pt33 {a0 a1 a2 a3 a4 a5 a6 a7 a8 a9 a10 a11 a12 a13 a14 a15 a16 a17 a18 a19 a20 a21 a22 a23 a24 a25 a26 a27 a28 a29 a30 a31 a32 : Nat × va_E} {ra : Int → Nat} {P S E T U : Int → Int} : Pk (List.range' 33 100) (a0 :: a1 :: a2 :: a3 :: a4 :: a5 :: a6 :: a7 :: a8 :: a9 :: a10 :: a11 :: a12 :: a13 :: a14 :: a15 :: a16 :: a17 :: a18 :: a19 :: a20 :: a21 :: a22 :: a23 :: a24 :: a25 :: a26 :: a27 :: a28 :: a29 :: a30 :: a31 :: a32 :: raysW ra P S E T U) (raysW ra P S E T U) := by
  have e := pk_tail [a0, a1, a2, a3, a4, a5, a6, a7, a8, a9, a10, a11, a12, a13, a14, a15, a16, a17, a18, a19, a20, a21, a22, a23, a24, a25, a26, a27, a28, a29, a30, a31, a32] (raysW ra P S E T U)
  rw [rays_len] at e
  exact e
theorem stl33 {a0 a1 a2 a3 a4 a5 a6 a7 a8 a9 a10 a11 a12 a13 a14 a15 a16 a17 a18 a19 a20 a21 a22 a23 a24 a25 a26 a27 a28 a29 a30 a31 a32 : Nat × va_E} {ra : Int → Nat} {P S E T U P' S' E' T' U' : Int → Int} : Sm (a0 :: a1 :: a2 :: a3 :: a4 :: a5 :: a6 :: a7 :: a8 :: a9 :: a10 :: a11 :: a12 :: a13 :: a14 :: a15 :: a16 :: a17 :: a18 :: a19 :: a20 :: a21 :: a22 :: a23 :: a24 :: a25 :: a26 :: a27 :: a28 :: a29 :: a30 :: a31 :: a32 :: raysW ra P S E T U) (List.range' 33 100) (raysW ra P' S' E' T' U') (a0 :: a1 :: a2 :: a3 :: a4 :: a5 :: a6 :: a7 :: a8 :: a9 :: a10 :: a11 :: a12 :: a13 :: a14 :: a15 :: a16 :: a17 :: a18 :: a19 :: a20 :: a21 :: a22 :: a23 :: a24 :: a25 :: a26 :: a27 :: a28 :: a29 :: a30 :: a31 :: a32 :: raysW ra P' S' E' T' U') := by
  have e := sm_tail (raysW ra P S E T U) (raysW ra P' S' E' T' U') [a0, a1, a2, a3, a4, a5, a6, a7, a8, a9, a10, a11, a12, a13, a14, a15, a16, a17, a18, a19, a20, a21, a22, a23, a24, a25, a26, a27, a28, a29, a30, a31, a32] (by rw [rays_len, rays_len])
  rw [rays_len] at e
  exact e
theorem pt34 {a0 a1 a2 a3 a4 a5 a6 a7 a8 a9 a10 a11 a12 a13 a14 a15 a16 a17 a18 a19 a20 a21 a22 a23 a24 a25 a26 a27 a28 a29 a30 a31 a32 a33 : Nat × va_E} {ra : Int → Nat} {P S E T U : Int → Int} : Pk (List.range' 34 100) (a0 :: a1 :: a2 :: a3 :: a4 :: a5 :: a6 :: a7 :: a8 :: a9 :: a10 :: a11 :: a12 :: a13 :: a14 :: a15 :: a16 :: a17 :: a18 :: a19 :: a20 :: a21 :: a22 :: a23 :: a24 :: a25 :: a26 :: a27 :: a28 :: a29 :: a30 :: a31 :: a32 :: a33 :: raysW ra P S E T U) (raysW ra P S E T U) := by
  have e := pk_tail [a0, a1, a2, a3, a4, a5, a6, a7, a8, a9, a10, a11, a12, a13, a14, a15, a16, a17, a18, a19, a20, a21, a22, a23, a24, a25, a26, a27, a28, a29, a30, a31, a32, a33] (raysW ra P S E T U)
  rw [rays_len] at e
  exact e
theorem stl34 {a0 a1 a2 a3 a4 a5 a6 a7 a8 a9 a10 a11 a12 a13 a14 a15 a16 a17 a18 a19 a20 a21 a22 a23 a24 a25 a26 a27 a28 a29 a30 a31 a32 a33 : Nat × va_E} {ra : Int → Nat} {P S E T U P' S' E' T' U' : Int → Int} : Sm (a0 :: a1 :: a2 :: a3 :: a4 :: a5 :: a6 :: a7 :: a8 :: a9 :: a10 :: a11 :: a12 :: a13 :: a14 :: a15 :: a16 :: a17 :: a18 :: a19 :: a20 :: a21 :: a22 :: a23 :: a24 :: a25 :: a26 :: a27 :: a28 :: a29 :: a30 :: a31 :: a32 :: a33 :: raysW ra P S E T U) (List.range' 34 100) (raysW ra P' S' E' T' U') (a0 :: a1 :: a2 :: a3 :: a4 :: a5 :: a6 :: a7 :: a8 :: a9 :: a10 :: a11 :: a12 :: a13 :: a14 :: a15 :: a16 :: a17 :: a18 :: a19 :: a20 :: a21 :: a22 :: a23 :: a24 :: a25 :: a26 :: a27 :: a28 :: a29 :: a30 :: a31 :: a32 :: a33 :: raysW ra P' S' E' T' U') := by
  have e := sm_tail (raysW ra P S E T U) (raysW ra P' S' E' T' U') [a0, a1, a2, a3, a4, a5, a6, a7, a8, a9, a10, a11, a12, a13, a14, a15, a16, a17, a18, a19, a20, a21, a22, a23, a24, a25, a26, a27, a28, a29, a30, a31, a32, a33] (by rw [rays_len, rays_len])
  rw [rays_len] at e
  exact e
theorem pt35 {a0 a1 a2 a3 a4 a5 a6 a7 a8 a9 a10 a11 a12 a13 a14 a15 a16 a17 a18 a19 a20 a21 a22 a23 a24 a25 a26 a27 a28 a29 a30 a31 a32 a33 a34 : Nat × va_E} {ra : Int → Nat} {P S E T U : Int → Int} : Pk (List.range' 35 100) (a0 :: a1 :: a2 :: a3 :: a4 :: a5 :: a6 :: a7 :: a8 :: a9 :: a10 :: a11 :: a12 :: a13 :: a14 :: a15 :: a16 :: a17 :: a18 :: a19 :: a20 :: a21 :: a22 :: a23 :: a24 :: a25 :: a26 :: a27 :: a28 :: a29 :: a30 :: a31 :: a32 :: a33 :: a34 :: raysW ra P S E T U) (raysW ra P S E T U) := by
  have e := pk_tail [a0, a1, a2, a3, a4, a5, a6, a7, a8, a9, a10, a11, a12, a13, a14, a15, a16, a17, a18, a19, a20, a21, a22, a23, a24, a25, a26, a27, a28, a29, a30, a31, a32, a33, a34] (raysW ra P S E T U)
  rw [rays_len] at e
  exact e
theorem stl35 {a0 a1 a2 a3 a4 a5 a6 a7 a8 a9 a10 a11 a12 a13 a14 a15 a16 a17 a18 a19 a20 a21 a22 a23 a24 a25 a26 a27 a28 a29 a30 a31 a32 a33 a34 : Nat × va_E} {ra : Int → Nat} {P S E T U P' S' E' T' U' : Int → Int} : Sm (a0 :: a1 :: a2 :: a3 :: a4 :: a5 :: a6 :: a7 :: a8 :: a9 :: a10 :: a11 :: a12 :: a13 :: a14 :: a15 :: a16 :: a17 :: a18 :: a19 :: a20 :: a21 :: a22 :: a23 :: a24 :: a25 :: a26 :: a27 :: a28 :: a29 :: a30 :: a31 :: a32 :: a33 :: a34 :: raysW ra P S E T U) (List.range' 35 100) (raysW ra P' S' E' T' U') (a0 :: a1 :: a2 :: a3 :: a4 :: a5 :: a6 :: a7 :: a8 :: a9 :: a10 :: a11 :: a12 :: a13 :: a14 :: a15 :: a16 :: a17 :: a18 :: a19 :: a20 :: a21 :: a22 :: a23 :: a24 :: a25 :: a26 :: a27 :: a28 :: a29 :: a30 :: a31 :: a32 :: a33 :: a34 :: raysW ra P' S' E' T' U') := by
  have e := sm_tail (raysW ra P S E T U) (raysW ra P' S' E' T' U') [a0, a1, a2, a3, a4, a5, a6, a7, a8, a9, a10, a11, a12, a13, a14, a15, a16, a17, a18, a19, a20, a21, a22, a23, a24, a25, a26, a27, a28, a29, a30, a31, a32, a33, a34] (by rw [rays_len, rays_len])
  rw [rays_len] at e
  exact e
theorem pt36 {a0 a1 a2 a3 a4 a5 a6 a7 a8 a9 a10 a11 a12 a13 a14 a15 a16 a17 a18 a19 a20 a21 a22 a23 a24 a25 a26 a27 a28 a29 a30 a31 a32 a33 a34 a35 : Nat × va_E} {ra : Int → Nat} {P S E T U : Int → Int} : Pk (List.range' 36 100) (a0 :: a1 :: a2 :: a3 :: a4 :: a5 :: a6 :: a7 :: a8 :: a9 :: a10 :: a11 :: a12 :: a13 :: a14 :: a15 :: a16 :: a17 :: a18 :: a19 :: a20 :: a21 :: a22 :: a23 :: a24 :: a25 :: a26 :: a27 :: a28 :: a29 :: a30 :: a31 :: a32 :: a33 :: a34 :: a35 :: raysW ra P S E T U) (raysW ra P S E T U) := by
  have e := pk_tail [a0, a1, a2, a3, a4, a5, a6, a7, a8, a9, a10, a11, a12, a13, a14, a15, a16, a17, a18, a19, a20, a21, a22, a23, a24, a25, a26, a27, a28, a29, a30, a31, a32, a33, a34, a35] (raysW ra P S E T U)
  rw [rays_len] at e
  exact e
theorem stl36 {a0 a1 a2 a3 a4 a5 a6 a7 a8 a9 a10 a11 a12 a13 a14 a15 a16 a17 a18 a19 a20 a21 a22 a23 a24 a25 a26 a27 a28 a29 a30 a31 a32 a33 a34 a35 : Nat × va_E} {ra : Int → Nat} {P S E T U P' S' E' T' U' : Int → Int} : Sm (a0 :: a1 :: a2 :: a3 :: a4 :: a5 :: a6 :: a7 :: a8 :: a9 :: a10 :: a11 :: a12 :: a13 :: a14 :: a15 :: a16 :: a17 :: a18 :: a19 :: a20 :: a21 :: a22 :: a23 :: a24 :: a25 :: a26 :: a27 :: a28 :: a29 :: a30 :: a31 :: a32 :: a33 :: a34 :: a35 :: raysW ra P S E T U) (List.range' 36 100) (raysW ra P' S' E' T' U') (a0 :: a1 :: a2 :: a3 :: a4 :: a5 :: a6 :: a7 :: a8 :: a9 :: a10 :: a11 :: a12 :: a13 :: a14 :: a15 :: a16 :: a17 :: a18 :: a19 :: a20 :: a21 :: a22 :: a23 :: a24 :: a25 :: a26 :: a27 :: a28 :: a29 :: a30 :: a31 :: a32 :: a33 :: a34 :: a35 :: raysW ra P' S' E' T' U') := by
  have e := sm_tail (raysW ra P S E T U) (raysW ra P' S' E' T' U') [a0, a1, a2, a3, a4, a5, a6, a7, a8, a9, a10, a11, a12, a13, a14, a15, a16, a17, a18, a19, a20, a21, a22, a23, a24, a25, a26, a27, a28, a29, a30, a31, a32, a33, a34, a35] (by rw [rays_len, rays_len])
  rw [rays_len] at e
  exact e
