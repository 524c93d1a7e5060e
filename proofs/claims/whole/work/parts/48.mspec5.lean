/-! the reference: what its shot does -/
abbrev EMX : Type := (Int → Int) × (Int → Int) × (Int → Int) × (Int → Int) × (Int → Int)
abbrev SMX : Type := RX × EMX
def heaM (h p t e : Int) (y : EMX) : EMX := (zup y.1 (h - 1) 1, zup y.2.1 p (y.2.1 p + 1), zup y.2.2.1 p (y.2.2.1 p + e), zup y.2.2.2.1 p (if y.2.1 p = 0 then t else y.2.2.2.1 p), zup y.2.2.2.2 p (max (y.2.2.2.2 p) e))
def spM (thr k r : Int) (x : RX) : RX :=
  if ¬ tiltF (x.2.2.1 r) k = 0 ∧ thr ≤ x.2.2.2.1 r / 2 then
    (bgM x.1, bgZ x.2.1 x.1 (x.2.1 r), bgZ x.2.2.1 x.1 (tiltF (x.2.2.1 r) k), bgZ (zup x.2.2.2.1 r (x.2.2.2.1 r - x.2.2.2.1 r / 2)) x.1 (x.2.2.2.1 r / 2), bgZ x.2.2.2.2.1 x.1 (x.2.2.2.2.1 r), bgZ x.2.2.2.2.2 x.1 1)
  else (x.1, x.2.1, x.2.2.1, zup x.2.2.2.1 r (x.2.2.2.1 r - x.2.2.2.1 r / 2), x.2.2.2.2.1, x.2.2.2.2.2)
theorem spM_t {thr k r m : Int} {P S E T U : Int → Int} (h : ¬ tiltF (S r) k = 0 ∧ thr ≤ E r / 2) : spM thr k r (m, P, S, E, T, U) = (bgM m, bgZ P m (P r), bgZ S m (tiltF (S r) k), bgZ (zup E r (E r - E r / 2)) m (E r / 2), bgZ T m (T r), bgZ U m 1) := if_pos h
theorem spM_f {thr k r m : Int} {P S E T U : Int → Int} (h : ¬ (¬ tiltF (S r) k = 0 ∧ thr ≤ E r / 2)) : spM thr k r (m, P, S, E, T, U) = (m, P, S, zup E r (E r - E r / 2), T, U) := if_neg h
def actM (thr h kd k p r : Int) (x : SMX) : SMX :=
  if kd = 0 then ((x.1.1, x.1.2.1, x.1.2.2.1, zup x.1.2.2.2.1 r (x.1.2.2.2.1 r * (1000 - k) / 1000), x.1.2.2.2.2.1, x.1.2.2.2.2.2), x.2)
  else if kd = 1 then ((x.1.1, x.1.2.1, zup x.1.2.2.1 r (-(x.1.2.2.1 r)), x.1.2.2.2.1, x.1.2.2.2.2.1, x.1.2.2.2.2.2), x.2)
  else if kd = 2 then ((x.1.1, x.1.2.1, zup x.1.2.2.1 r (if tiltF (x.1.2.2.1 r) k = 0 then x.1.2.2.1 r else tiltF (x.1.2.2.1 r) k), x.1.2.2.2.1, x.1.2.2.2.2.1, zup x.1.2.2.2.2.2 r (if tiltF (x.1.2.2.1 r) k = 0 then 0 else 1)), x.2)
  else if kd = 3 then (spM thr k r x.1, x.2)
  else (x.1, heaM h p (x.1.2.2.2.2.1 r) (x.1.2.2.2.1 r) x.2)
section ACT
variable {thr h kd k p r m : Int} {P S E T U : Int → Int} {y : EMX}
theorem actM_0 (e : kd = 0) : actM thr h kd k p r ((m, P, S, E, T, U), y) = ((m, P, S, zup E r (E r * (1000 - k) / 1000), T, U), y) := if_pos e
theorem actM_1 (e : kd = 1) : actM thr h kd k p r ((m, P, S, E, T, U), y) = ((m, P, zup S r (-(S r)), E, T, U), y) := by
  unfold actM; rw [if_neg (by omega), if_pos e]
theorem actM_2 (e : kd = 2) : actM thr h kd k p r ((m, P, S, E, T, U), y) = ((m, P, zup S r (if tiltF (S r) k = 0 then S r else tiltF (S r) k), E, T, zup U r (if tiltF (S r) k = 0 then 0 else 1)), y) := by
  unfold actM; rw [if_neg (by omega), if_neg (by omega), if_pos e]
theorem actM_3 (e : kd = 3) : actM thr h kd k p r ((m, P, S, E, T, U), y) = (spM thr k r (m, P, S, E, T, U), y) := by
  unfold actM; rw [if_neg (by omega), if_neg (by omega), if_neg (by omega), if_pos e]
theorem actM_4 (e : kd = 4) : actM thr h kd k p r ((m, P, S, E, T, U), y) = ((m, P, S, E, T, U), heaM h p (T r) (E r) y) := by
  unfold actM; rw [if_neg (by omega), if_neg (by omega), if_neg (by omega), if_neg (by omega)]
end ACT
def EI (hb : Int) (y : EMX) : Prop := ∀ p, 0 ≤ p → p < 12 → (0 ≤ y.2.1 p ∧ y.2.1 p ≤ hb) ∧ 0 ≤ y.2.2.2.2 p ∧ y.2.2.2.2 p ≤ 1000000
theorem EI_mono {a b : Int} {y : EMX} (h : EI a y) (hab : a ≤ b) : EI b y := fun p h0 h1 => by have := h p h0 h1; omega
theorem RI_T {tb m : Int} {P S E T T' U : Int → Int} (h : RI tb (m, P, S, E, T, U)) (ht : ∀ j, 0 ≤ j → j < m → 0 ≤ T' j ∧ T' j ≤ tb) : RI tb (m, P, S, E, T', U) := ⟨h.1, h.2.1, fun j h0 h1 => by have q := h.2.2 j h0 h1; exact ⟨q.1, q.2.1, q.2.2.1, ht j h0 h1, q.2.2.2.2⟩⟩
theorem actM_I {tb hb thr h kd k p r m : Int} {P S E T U : Int → Int} {y : EMX} (hI : RI tb (m, P, S, E, T, U)) (hE : EI hb y) (hhb : 0 ≤ hb) (hr : 0 ≤ r ∧ r < m) (hk : (kd = 0 → 0 ≤ k ∧ k ≤ 1000) ∧ -9999 ≤ k ∧ k ≤ 9999) (hd : 0 ≤ kd ∧ kd ≤ 4) (hp : 0 ≤ p ∧ p < 12) :
    RI tb (actM thr h kd k p r ((m, P, S, E, T, U), y)).1 ∧ EI (hb + 1) (actM thr h kd k p r ((m, P, S, E, T, U), y)).2 ∧ r < (actM thr h kd k p r ((m, P, S, E, T, U), y)).1.1 ∧ (actM thr h kd k p r ((m, P, S, E, T, U), y)).1.2.1 r = P r ∧ (actM thr h kd k p r ((m, P, S, E, T, U), y)).1.2.2.2.2.1 r = T r := by
  have q := RI_one hI hr
  have hE1 : EI (hb + 1) y := EI_mono hE (by omega)
  rcases (show kd = 0 ∨ kd = 1 ∨ kd = 2 ∨ kd = 3 ∨ kd = 4 by omega) with e | e | e | e | e
  · rw [actM_0 e]
    refine ⟨RI_set (r := r) hI (fun j hj => ⟨rfl, rfl, zup_o hj, rfl, rfl⟩) ⟨q.1, q.2.1, ?_, q.2.2.2.1, q.2.2.2.2⟩, hE1, hr.2, rfl, rfl⟩
    rw [zup_s]
    exact lose_b q.2.2.1 (hk.1 e)
  · rw [actM_1 e]
    refine ⟨RI_set (r := r) hI (fun j hj => ⟨rfl, zup_o hj, rfl, rfl, rfl⟩) ⟨q.1, ?_, q.2.2.1, q.2.2.2.1, q.2.2.2.2⟩, hE1, hr.2, rfl, rfl⟩
    rw [zup_s]
    omega
  · rw [actM_2 e]
    refine ⟨RI_set (r := r) hI (fun j hj => ⟨rfl, zup_o hj, rfl, rfl, zup_o hj⟩) ⟨q.1, ?_, q.2.2.1, q.2.2.2.1, ?_⟩, hE1, hr.2, rfl, rfl⟩
    · rw [zup_s]
      split
      · exact q.2.1
      · rename_i hn
        exact tilt_ne hn
    · rw [zup_s]
      split
      · exact Or.inl rfl
      · exact Or.inr rfl
  · rw [actM_3 e]
    have he : RI tb (m, P, S, zup E r (E r - E r / 2), T, U) := by
      refine RI_set (r := r) hI (fun j hj => ⟨rfl, rfl, zup_o hj, rfl, rfl⟩) ⟨q.1, q.2.1, ?_, q.2.2.2.1, q.2.2.2.2⟩
      rw [zup_s]
      omega
    by_cases hc : ¬ tiltF (S r) k = 0 ∧ thr ≤ E r / 2
    · rw [spM_t hc]
      unfold bgM bgZ
      by_cases hm : m < 100
      · simp only [if_pos hm]
        refine ⟨⟨by have := hI.1; dsimp only at this ⊢; omega, by dsimp only; omega, fun j h0 h1 => ?_⟩, hE1, by omega, zup_o (by omega), zup_o (by omega)⟩
        dsimp only at h1 ⊢
        by_cases hj : j = m
        · subst hj
          rw [zup_s, zup_s, zup_s, zup_s, zup_s]
          exact ⟨q.1, tilt_ne hc.1, by omega, by omega, Or.inr rfl⟩
        · rw [zup_o hj, zup_o hj, zup_o hj, zup_o hj, zup_o hj]
          exact he.2.2 j h0 (by dsimp only; omega)
      · simp only [if_neg hm]
        refine ⟨he, hE1, hr.2, ?_, ?_⟩ <;> first | trivial | rfl
    · rw [spM_f hc]
      exact ⟨he, hE1, hr.2, rfl, rfl⟩
  · rw [actM_4 e]
    refine ⟨hI, fun j h0 h1 => ?_, hr.2, rfl, rfl⟩
    have q0 := hE j h0 h1
    unfold heaM
    dsimp only at q0 ⊢
    by_cases hj : j = p
    · subst hj
      rw [zup_s, zup_s]
      have := q.2.2.1
      omega
    · rw [zup_o hj, zup_o hj]
      omega
def stepM (thr h r : Int) (f : Int → Int) (i : Int) (x : SMX) : SMX := if x.1.2.2.2.2.2 r = 0 then x else if covP f i (x.1.2.1 r) then actM thr h (f (i * 4 + 0)) (f (i * 4 + 3)) i r x else x
def partsM (thr h r : Int) (f : Int → Int) : Nat → SMX → SMX
  | 0, x => x
  | k + 1, x => stepM thr h r f (k : Int) (partsM thr h r f k x)
theorem partsM_s {thr h r : Int} {f : Int → Int} {x : SMX} {i : Int} (hi : 0 ≤ i) : partsM thr h r f (i + 1).toNat x = stepM thr h r f i (partsM thr h r f i.toNat x) := by
  rw [show (i + 1).toNat = i.toNat + 1 by omega, partsM, Int.toNat_of_nonneg hi]
theorem partsM_dead {thr h r : Int} {f : Int → Int} {x : SMX} {k : Nat} (hd : (partsM thr h r f k x).1.2.2.2.2.2 r = 0) : ∀ d : Nat, partsM thr h r f (k + d) x = partsM thr h r f k x
  | 0 => rfl
  | d + 1 => by
    have e := partsM_dead hd d
    show stepM thr h r f _ (partsM thr h r f (k + d) x) = _
    rw [e]
    exact if_pos hd
theorem partsM_dead2 {thr h r : Int} {f : Int → Int} {x y : SMX} {i n : Int} (hx : y = partsM thr h r f i.toNat x) (hd : y.1.2.2.2.2.2 r = 0) (h0 : 0 ≤ i) (h1 : i ≤ n) : y = partsM thr h r f n.toNat x := by
  have e := partsM_dead (thr := thr) (h := h) (r := r) (f := f) (x := x) (k := i.toNat) (by rw [← hx]; exact hd) (n.toNat - i.toNat)
  rw [show i.toNat + (n.toNat - i.toNat) = n.toNat by omega] at e
  rw [hx, e]
section STEP
variable {thr h r m i : Int} {f P S E T U : Int → Int} {y : EMX}
theorem stepM_n (h1 : ¬ U r = 0) (h2 : ¬ covP f i (P r)) : stepM thr h r f i ((m, P, S, E, T, U), y) = ((m, P, S, E, T, U), y) := by
  unfold stepM
  rw [if_neg h1, if_neg h2]
theorem stepM_y (h1 : ¬ U r = 0) (h2 : covP f i (P r)) : stepM thr h r f i ((m, P, S, E, T, U), y) = actM thr h (f (i * 4 + 0)) (f (i * 4 + 3)) i r ((m, P, S, E, T, U), y) := by
  unfold stepM
  rw [if_neg h1, if_pos h2]
end STEP
theorem partsM_I {tb hb thr h r n p t : Int} {f : Int → Int} (hp : ∀ j, 0 ≤ j → j < n → PartOK f j) (hn : n ≤ 12) (hhb : 0 ≤ hb) (hr : 0 ≤ r) :
    ∀ (k : Nat) (x : SMX), (k : Int) ≤ n → RI tb x.1 → EI hb x.2 → r < x.1.1 → x.1.2.1 r = p → x.1.2.2.2.2.1 r = t →
      RI tb (partsM thr h r f k x).1 ∧ EI (hb + (k : Int)) (partsM thr h r f k x).2 ∧ r < (partsM thr h r f k x).1.1 ∧ (partsM thr h r f k x).1.2.1 r = p ∧ (partsM thr h r f k x).1.2.2.2.2.1 r = t
  | 0, x, _, h1, h2, h3, h4, h5 => ⟨h1, EI_mono h2 (by omega), h3, h4, h5⟩
  | k + 1, x, hk, h1, h2, h3, h4, h5 => by
    have e := partsM_I (thr := thr) (h := h) hp hn hhb hr k x (by omega) h1 h2 h3 h4 h5
    show RI tb (stepM thr h r f (k : Int) (partsM thr h r f k x)).1 ∧ EI _ (stepM thr h r f (k : Int) (partsM thr h r f k x)).2 ∧ r < (stepM thr h r f (k : Int) (partsM thr h r f k x)).1.1 ∧ (stepM thr h r f (k : Int) (partsM thr h r f k x)).1.2.1 r = p ∧ (stepM thr h r f (k : Int) (partsM thr h r f k x)).1.2.2.2.2.1 r = t
    generalize partsM thr h r f k x = y at e ⊢
    obtain ⟨⟨m, P, S, E, T, U⟩, y⟩ := y
    obtain ⟨e1, e2, e3, e4, e5⟩ := e
    have hw : EI (hb + ((k + 1 : Nat) : Int)) y := EI_mono e2 (by omega)
    unfold stepM
    split
    · exact ⟨e1, hw, e3, e4, e5⟩
    · split
      · have q := hp (k : Int) (by omega) (by omega)
        have a := actM_I (thr := thr) (h := h) (p := (k : Int)) e1 e2 (by omega) ⟨hr, e3⟩ q.k q.1 (by omega)
        exact ⟨a.1, EI_mono a.2.1 (by omega), a.2.2.1, a.2.2.2.1.trans e4, a.2.2.2.2.trans e5⟩
      · exact ⟨e1, hw, e3, e4, e5⟩
def endM (thr r : Int) (x : RX) : RX := (x.1, x.2.1, x.2.2.1, x.2.2.2.1, x.2.2.2.2.1, if x.2.2.2.1 r < thr then zup x.2.2.2.2.2 r 0 else x.2.2.2.2.2)
theorem zup_eqv {f : Int → Int} {i x : Int} (h : f i = x) : zup f i x = f := by
  funext j
  unfold zup
  split
  · rename_i e
    rw [e, h]
  · rfl
section END_
variable {thr r m : Int} {P S E T U : Int → Int}
theorem endM_a (h2 : U r = 0) : endM thr r (m, P, S, E, T, U) = (m, P, S, E, T, zup U r 0) := by
  unfold endM
  dsimp only
  split
  · rfl
  · rw [zup_eqv h2]
theorem endM_b (h1 : E r < thr) : endM thr r (m, P, S, E, T, U) = (m, P, S, E, T, zup U r 0) := by
  unfold endM
  dsimp only
  rw [if_pos h1]
theorem endM_c (h1 : thr ≤ E r) (h2 : U r = 1) : endM thr r (m, P, S, E, T, U) = (m, P, S, E, T, zup U r 1) := by
  unfold endM
  dsimp only
  rw [if_neg (by omega), zup_eqv h2]
end END_
theorem endM_I {tb thr r : Int} {x : RX} (hI : RI tb x) : RI tb (endM thr r x) := by
  obtain ⟨m, P, S, E, T, U⟩ := x
  unfold endM
  dsimp only
  split
  · refine ⟨hI.1, hI.2.1, fun j h0 h1 => ?_⟩
    have q := hI.2.2 j h0 h1
    dsimp only at q ⊢
    refine ⟨q.1, q.2.1, q.2.2.1, q.2.2.2.1, ?_⟩
    unfold zup
    split
    · exact Or.inl rfl
    · exact q.2.2.2.2
  · exact hI
def hitM0 (lo r : Int) (x : RX) : RX := (x.1, zup x.2.1 r (newP x r), x.2.2.1, zup x.2.2.2.1 r (x.2.2.2.1 r * (1000 - lo) / 1000), zup x.2.2.2.2.1 r (x.2.2.2.2.1 r + chordF (x.2.2.1 r)), x.2.2.2.2.2)
theorem hitM0_I {tb lo r m : Int} {P S E T U : Int → Int} (hI : RI tb (m, P, S, E, T, U)) (hr : 0 ≤ r ∧ r < m) (hlo : 0 ≤ lo ∧ lo ≤ 999) : RI (tb + 2000000) (hitM0 lo r (m, P, S, E, T, U)) := by
  have q := RI_one hI hr
  have hc := chord_R (s := S r) q.2.1.2
  unfold hitM0 newP
  refine RI_set (r := r) (RI_mono hI (by omega)) (fun j hj => ⟨zup_o hj, rfl, zup_o hj, zup_o hj, rfl⟩) ⟨?_, q.2.1, ?_, ?_, q.2.2.2.2⟩
  · rw [zup_s]
    omega
  · rw [zup_s]
    exact lose_b q.2.2.1 (by omega)
  · rw [zup_s]
    dsimp only
    omega
/-- the state of a shot: rays, ears and echoes; hits -/
abbrev FMX : Type := SMX × Int × (Int → Int)
def hiM (thr lo n r : Int) (f : Int → Int) (y : FMX) : SMX := partsM thr (y.2.1 + 1) r f n.toNat (hitM0 lo r y.1.1, (zup y.1.2.1 y.2.1 0, y.1.2.2))
def goM (thr lo n : Int) (f : Int → Int) (r : Int) (y : FMX) : FMX := ((endM thr r (hiM thr lo n r f y).1, (hiM thr lo n r f y).2), y.2.1 + 1, noteF y.2.2 y.2.1 r (newP y.1.1 r) (y.1.1.2.2.2.2.1 r + chordF (y.1.1.2.2.1 r)) (y.1.1.2.2.2.1 r) (y.1.1.2.2.1 r))
def tcF (T S : Int → Int) : Int → Int := fun j => T j + chordF (S j)
def nxM (y : FMX) : Int := erlF (tcF y.1.1.2.2.2.2.1 y.1.1.2.2.1) y.1.1.2.2.2.2.2 y.1.1.1.toNat
def itM (thr lo n : Int) (f : Int → Int) : Nat → FMX → FMX
  | 0, y => y
  | k + 1, y => if nxM (itM thr lo n f k y) = -1 then itM thr lo n f k y else goM thr lo n f (nxM (itM thr lo n f k y)) (itM thr lo n f k y)
theorem itM_s {thr lo n : Int} {f : Int → Int} {y : FMX} {k : Nat} (h : ¬ nxM (itM thr lo n f k y) = -1) : itM thr lo n f (k + 1) y = goM thr lo n f (nxM (itM thr lo n f k y)) (itM thr lo n f k y) := if_neg h
theorem itM_dead {thr lo n : Int} {f : Int → Int} {y : FMX} {k : Nat} (hd : nxM (itM thr lo n f k y) = -1) : ∀ d : Nat, itM thr lo n f (k + d) y = itM thr lo n f k y
  | 0 => rfl
  | d + 1 => by
    have e := itM_dead hd d
    show (if nxM (itM thr lo n f (k + d) y) = -1 then itM thr lo n f (k + d) y else _) = _
    rw [e]
    exact if_pos hd
def FM (k : Int) (y : FMX) : Prop := RI (k * 2000000) y.1.1 ∧ EI (12 * k) y.1.2 ∧ y.2.1 = k
theorem goM_I {thr lo n k r : Int} {f : Int → Int} {y : FMX} (hW : WallOK n lo thr f) (hI : FM k y) (hk : 0 ≤ k) (hr : 0 ≤ r ∧ r < y.1.1.1) : FM (k + 1) (goM thr lo n f r y) := by
  obtain ⟨⟨⟨m, P, S, E, T, U⟩, ie, w⟩, h, N⟩ := y
  obtain ⟨i1, i2, i3⟩ := hI
  obtain ⟨w1, w2, w3, w4⟩ := hW
  dsimp only at i1 i2 i3 hr
  have hI0 := hitM0_I (lo := lo) i1 hr w2
  have hJ := partsM_I (thr := thr) (h := h + 1) (tb := k * 2000000 + 2000000) (hb := 12 * k) (r := r) (t := T r + chordF (S r)) (p := newP (m, P, S, E, T, U) r) w4 w1.2 (by omega) hr.1 n.toNat (hitM0 lo r (m, P, S, E, T, U), (zup ie h 0, w)) (by omega) hI0 i2 hr.2 zup_s zup_s
  unfold goM hiM
  dsimp only
  refine ⟨?_, EI_mono hJ.2.1 (by omega), by dsimp only; omega⟩
  rw [show (k + 1) * 2000000 = k * 2000000 + 2000000 by omega]
  exact endM_I hJ.1
def iniM (p s e : Int) (y : FMX) : FMX := (((1, zup y.1.1.2.1 0 p, zup y.1.1.2.2.1 0 s, zup y.1.1.2.2.2.1 0 e, zup y.1.1.2.2.2.2.1 0 0, zup y.1.1.2.2.2.2.2 0 1), (y.1.2.1, clr0 y.1.2.2.1 12, clr0 y.1.2.2.2.1 12, y.1.2.2.2.2.1, clr0 y.1.2.2.2.2.2 12)), 0, y.2.2)
theorem iniM_I {p s e : Int} {y : FMX} (hp : 0 ≤ p ∧ p < 27720) (hs : s ≠ 0 ∧ -13859 ≤ s ∧ s ≤ 13859) (he : 1 ≤ e ∧ e ≤ 1000000) : FM 0 (iniM p s e y) := by
  refine ⟨⟨show (0 : Int) ≤ 1 by decide, show (1 : Int) ≤ 100 by decide, fun j h0 h1 => ?_⟩, fun j h0 h1 => ?_, rfl⟩
  · have hj : j = 0 := by
      have : j < 1 := h1
      omega
    subst hj
    unfold iniM
    dsimp only
    rw [zup_s, zup_s, zup_s, zup_s, zup_s]
    exact ⟨hp, hs, by omega, by omega, Or.inr rfl⟩
  · unfold iniM clr0
    dsimp only
    rw [if_pos ⟨h0, h1⟩, if_pos ⟨h0, h1⟩]
    omega
def nvM (b : Int) : Int := if b = -1 then -100009 else b
