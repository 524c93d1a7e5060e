/-! p30: the same shot again shows the same -/
def EqB (n : Int) (f g : Int → Int) : Prop := ∀ j, 0 ≤ j → j < n → f j = g j
theorem EqB.z {n : Int} {f g : Int → Int} (h : EqB n f g) (r x : Int) : EqB n (zup f r x) (zup g r x) := fun j a b => by
  unfold zup
  split
  · rfl
  · exact h j a b
theorem EqB.b {m : Int} {f g : Int → Int} (h : EqB m f g) (x : Int) : EqB (bgM m) (bgZ f m x) (bgZ g m x) := fun j a b => by
  unfold bgM at b
  unfold bgZ
  by_cases hm : m < 100
  · rw [if_pos hm] at b ⊢
    rw [if_pos hm]
    by_cases hj : j = m
    · rw [hj, zup_s, zup_s]
    · rw [zup_n hj, zup_n hj]
      exact h j a (by omega)
  · rw [if_neg hm] at b ⊢
    rw [if_neg hm]
    exact h j a b
def SimR (x y : RX) : Prop := x.1 = y.1 ∧ EqB x.1 x.2.1 y.2.1 ∧ EqB x.1 x.2.2.1 y.2.2.1 ∧ EqB x.1 x.2.2.2.1 y.2.2.2.1 ∧ EqB x.1 x.2.2.2.2.1 y.2.2.2.2.1 ∧ EqB x.1 x.2.2.2.2.2 y.2.2.2.2.2
def SimE (x y : (Int → Int) × Int × (Int → Int)) : Prop := EqB 48 x.1 y.1 ∧ x.2.1 = y.2.1 ∧ EqB x.2.1 x.2.2 y.2.2
def SimS (x y : SX) : Prop := SimR x.1 y.1 ∧ SimE x.2 y.2
theorem bgM_le (m : Int) : m ≤ bgM m := by unfold bgM; split <;> omega
theorem sp_sim {thr k r : Int} {x y : RX} (h : SimR x y) (hr : 0 ≤ r ∧ r < x.1) : SimR (spX thr k r x) (spX thr k r y) ∧ x.1 ≤ (spX thr k r x).1 := by
  obtain ⟨m, P, S, E, T, U⟩ := x
  obtain ⟨m', P', S', E', T', U'⟩ := y
  obtain ⟨h0, h1, h2, h3, h4, h5⟩ := h
  dsimp only at h0 h1 h2 h3 h4 h5 hr
  subst h0
  have p := h1 r hr.1 hr.2
  have s := h2 r hr.1 hr.2
  have e := h3 r hr.1 hr.2
  have t := h4 r hr.1 hr.2
  by_cases hc : ¬ tiltF (S r) k = 0 ∧ thr ≤ E r / 2
  · rw [sp_t hc, sp_t (by rw [← s, ← e]; exact hc), ← p, ← s, ← e, ← t]
    exact ⟨⟨rfl, h1.b _, h2.b _, (h3.z _ _).b _, h4.b _, h5.b _⟩, bgM_le m⟩
  · rw [sp_f hc, sp_f (by rw [← s, ← e]; exact hc), ← e]
    exact ⟨⟨rfl, h1, h2, h3.z _ _, h4, h5⟩, Int.le_refl _⟩
theorem hear_sim {A A' : Int → Int} {p t e : Int} (h : EqB 48 A A') (hp : 0 ≤ p ∧ p < 12) : EqB 48 (hearF A p t e) (hearF A' p t e) := by
  have a0 := h (p * 4) (by omega) (by omega)
  have a1 := h (p * 4 + 1) (by omega) (by omega)
  have a3 := h (p * 4 + 3) (by omega) (by omega)
  unfold hearF
  rw [a0, a1, a3]
  refine EqB.z (EqB.z (EqB.z ?_ _ _) _ _) _ _
  unfold hear1
  rw [a0]
  split
  · exact h.z _ _
  · exact h
theorem echo_sim {ec h : Int} {Ec Ec' : Int → Int} (he : EqB ec Ec Ec') : eC ec Ec h = eC ec Ec' h ∧ EqB (eC ec Ec h) (eF ec Ec h) (eF ec Ec' h) := by
  have hi : echoNew ec Ec h ↔ echoNew ec Ec' h := by
    unfold echoNew
    by_cases h0 : 0 < ec
    · rw [he (ec - 1) (by omega) (by omega)]
    · constructor <;> exact fun z => ⟨fun w => h0 w.1, z.2⟩
  by_cases hn : echoNew ec Ec h
  · rw [(eC_t hn).1, (eC_t hn).2, (eC_t (hi.mp hn)).1, (eC_t (hi.mp hn)).2]
    refine ⟨rfl, fun j a b => ?_⟩
    by_cases hj : j = ec
    · rw [hj, zup_s, zup_s]
    · rw [zup_n hj, zup_n hj]
      exact he j a (by omega)
  · rw [(eC_f hn).1, (eC_f hn).2, (eC_f (fun q => hn (hi.mpr q))).1, (eC_f (fun q => hn (hi.mpr q))).2]
    exact ⟨rfl, he⟩
theorem act_sim {thr h kd k p r : Int} {x y : SX} (hS : SimS x y) (hr : 0 ≤ r ∧ r < x.1.1) (hp : 0 ≤ p ∧ p < 12) : SimS (actX thr h kd k p r x) (actX thr h kd k p r y) ∧ x.1.1 ≤ (actX thr h kd k p r x).1.1 := by
  obtain ⟨⟨m, P, S, E, T, U⟩, A, ec, Ec⟩ := x
  obtain ⟨⟨m', P', S', E', T', U'⟩, A', ec', Ec'⟩ := y
  obtain ⟨⟨h0, h1, h2, h3, h4, h5⟩, g1, g2, g3⟩ := hS
  dsimp only at h0 h1 h2 h3 h4 h5 hr g1 g2 g3
  subst h0
  subst g2
  have s := h2 r hr.1 hr.2
  have e := h3 r hr.1 hr.2
  have t := h4 r hr.1 hr.2
  have u := h5 r hr.1 hr.2
  unfold actX
  dsimp only
  split
  · rw [← e]
    exact ⟨⟨⟨rfl, h1, h2, h3.z _ _, h4, h5⟩, g1, rfl, g3⟩, Int.le_refl _⟩
  · split
    · rw [← s]
      exact ⟨⟨⟨rfl, h1, h2.z _ _, h3, h4, h5⟩, g1, rfl, g3⟩, Int.le_refl _⟩
    · split
      · simp only [← s, ← u]
        exact ⟨⟨⟨rfl, h1, h2.z _ _, h3, h4, h5.z _ _⟩, g1, rfl, g3⟩, Int.le_refl _⟩
      · split
        · have q := sp_sim (thr := thr) (k := k) (r := r) (x := (m, P, S, E, T, U)) (y := (m, P', S', E', T', U')) ⟨rfl, h1, h2, h3, h4, h5⟩ hr
          exact ⟨⟨q.1, g1, rfl, g3⟩, q.2⟩
        · have q := echo_sim (h := h) g3
          rw [← e, ← t]
          exact ⟨⟨⟨rfl, h1, h2, h3, h4, h5⟩, hear_sim g1 hp, q.1, q.2⟩, Int.le_refl _⟩
theorem parts_sim {thr h r n : Int} {f : Int → Int} (hn : n ≤ 12) : ∀ (k : Nat) (x y : SX), (k : Int) ≤ n → SimS x y → 0 ≤ r ∧ r < x.1.1 → SimS (partsX thr h r f k x) (partsX thr h r f k y) ∧ x.1.1 ≤ (partsX thr h r f k x).1.1
  | 0, x, y, _, hS, _ => ⟨hS, Int.le_refl _⟩
  | k + 1, x, y, hk, hS, hr => by
    obtain ⟨a, b⟩ := parts_sim (thr := thr) (h := h) (f := f) hn k x y (by omega) hS hr
    rw [partsX, partsX]
    generalize partsX thr h r f k x = X at a b ⊢
    generalize partsX thr h r f k y = Y at a b ⊢
    have hr2 : 0 ≤ r ∧ r < X.1.1 := ⟨hr.1, by omega⟩
    have u := a.1.2.2.2.2.2 r hr2.1 hr2.2
    have p := a.1.2.1 r hr2.1 hr2.2
    unfold stepX
    rw [← u, ← p]
    split
    · exact ⟨a, b⟩
    · split
      · have q := act_sim (thr := thr) (h := h) (kd := f ((k : Int) * 4 + 0)) (k := f ((k : Int) * 4 + 3)) (p := (k : Int)) a hr2 ⟨by omega, by omega⟩
        exact ⟨q.1, by omega⟩
      · exact ⟨a, b⟩
theorem end_sim {thr r : Int} {x y : RX} (h : SimR x y) (hr : 0 ≤ r ∧ r < x.1) : SimR (endR thr r x) (endR thr r y) := by
  obtain ⟨h0, h1, h2, h3, h4, h5⟩ := h
  have s := h2 r hr.1 hr.2
  have e := h3 r hr.1 hr.2
  have t := h4 r hr.1 hr.2
  have u := h5 r hr.1 hr.2
  unfold endR SimR
  dsimp only
  rw [← s, ← e, ← t, ← u]
  refine ⟨h0, h1, h2, h3, ?_, ?_⟩
  · split
    · exact h4
    · exact h4.z _ _
  · split
    · exact h5.z _ _
    · exact h5
theorem erl_sim {T T' U U' : Int → Int} {m : Int} (hT : EqB m T T') (hU : EqB m U U') : ∀ k : Nat, (k : Int) ≤ m → erlF T U k = erlF T' U' k
  | 0, _ => rfl
  | k + 1, hk => by
    have e := erl_sim hT hU k (by omega)
    have hR := erl_R T U k
    rw [erlF, erlF, ← e, ← hU (k : Int) (by omega) (by omega), ← hT (k : Int) (by omega) (by omega)]
    by_cases h1 : erlF T U k = -1
    · simp only [h1, true_or]
    · rw [← hT (erlF T U k) (by omega) (by omega)]
def SimF (x y : FX) : Prop := SimS x.1 y.1 ∧ 0 ≤ x.2.1.1 ∧ x.2.1.1 = y.2.1.1 ∧ x.2.1.2.1 = y.2.1.2.1 ∧ EqB (x.2.1.1 * 5) x.2.1.2.2 y.2.1.2.2 ∧ x.2.2.1.1 = y.2.2.1.1 ∧ EqB 434 x.2.2.1.2 y.2.2.1.2
theorem note_sim {N N' : Int → Int} {h r p t e s : Int} (hN : EqB (h * 5) N N') : EqB ((h + 1) * 5) (noteF N h r p t e s) (noteF N' h r p t e s) := fun j a b => by
  by_cases h0 : j < h * 5
  · rw [note_o h0, note_o h0]
    exact hN j a h0
  · unfold noteF zup
    rcases (show j = h * 5 ∨ j = h * 5 + 1 ∨ j = h * 5 + 2 ∨ j = h * 5 + 3 ∨ j = h * 5 + 4 by omega) with e | e | e | e | e
    · simp only [e, if_true, ite_true]
    · simp only [e, if_true, ite_true]
    · simp only [e, if_true, ite_true]
    · simp only [e, if_true, ite_true]
    · simp only [e, if_true, ite_true]
theorem mark_sim {f g : Int → Int} {x c : Int} (h : EqB 434 f g) (hx : 0 ≤ x ∧ x < 27720) : mkC f x c = mkC g x c ∧ EqB 434 (mkF f x) (mkF g x) := by
  have e := h (x / 64) (by omega) (by omega)
  unfold mkC mkF mkNew
  rw [e]
  split
  · exact ⟨rfl, h.z _ _⟩
  · exact ⟨rfl, h⟩
theorem go_sim {thr lo n r : Int} {f : Int → Int} {x y : FX} (hn : 0 ≤ n ∧ n ≤ 12) (h : SimF x y) (hr : 0 ≤ r ∧ r < x.1.1.1) : SimF (goX thr lo n f r x) (goX thr lo n f r y) := by
  obtain ⟨⟨⟨m, P, S, E, T, U⟩, A, ec, Ec⟩, ⟨h0, es, Nn⟩, ⟨c, wd⟩, pc, Cn⟩ := x
  obtain ⟨⟨⟨m', P', S', E', T', U'⟩, A', ec', Ec'⟩, ⟨h0', es', Nn'⟩, ⟨c', wd'⟩, pc', Cn'⟩ := y
  obtain ⟨⟨⟨g0, g1, g2, g3, g4, g5⟩, g6⟩, k0, k1, k2, k3, k4, k5⟩ := h
  dsimp only at g0 g1 g2 g3 g4 g5 g6 k0 k1 k2 k3 k4 k5 hr
  subst g0
  subst k1
  subst k2
  subst k4
  have p := g1 r hr.1 hr.2
  have s := g2 r hr.1 hr.2
  have e := g3 r hr.1 hr.2
  have t := g4 r hr.1 hr.2
  have hp : newP (m, P', S', E', T', U') r = newP (m, P, S, E, T, U) r := by unfold newP; dsimp only; rw [p, s]
  have hp1 : 0 ≤ newP (m, P, S, E, T, U) r ∧ newP (m, P, S, E, T, U) r < 27720 := by unfold newP; dsimp only; omega
  have hH : SimS (hit0 lo r (m, P, S, E, T, U), A, ec, Ec) (hit0 lo r (m, P', S', E', T', U'), A', ec', Ec') := by
    unfold hit0
    rw [hp]
    dsimp only
    rw [← e]
    exact ⟨⟨rfl, g1.z _ _, g2, g3.z _ _, g4, g5⟩, g6⟩
  have hX := parts_sim (thr := thr) (h := h0 + 1) (f := f) hn.2 n.toNat _ _ (by omega) hH hr
  have hm := mark_sim (c := c) k5 hp1
  have hE := end_sim (thr := thr) hX.1.1 (r := r) ⟨hr.1, by have := hX.2; have : m ≤ (partsX thr (h0 + 1) r f n.toNat (hit0 lo r (m, P, S, E, T, U), A, ec, Ec)).1.1 := hX.2; omega⟩
  unfold goX hitX
  dsimp only
  rw [hp, ← e, ← s, ← t]
  refine ⟨⟨hE, hX.1.2⟩, by dsimp only; omega, rfl, rfl, note_sim k3, hm.1, hm.2⟩
theorem ini_sim {p s e : Int} (x y : FX) : SimF (ini0 p s e x) (ini0 p s e y) := by
  have hb : ∀ (f g : Int → Int) (v : Int), EqB 1 (bgZ f 0 v) (bgZ g 0 v) := fun f g v j a b => by
    have hj : j = 0 := by omega
    unfold bgZ
    rw [if_pos (by decide), if_pos (by decide), hj, zup_s, zup_s]
  unfold ini0
  refine ⟨⟨⟨rfl, hb _ _ _, hb _ _ _, hb _ _ _, hb _ _ _, hb _ _ _⟩, fun j a b => ?_, rfl, fun j a b => ?_⟩, Int.le_refl _, rfl, rfl, fun j a b => ?_, rfl, fun j a b => ?_⟩
  · have q : 0 ≤ j ∧ j < 12 * 4 := by omega
    simp only [ear0, if_pos q]
  · have : j < 0 := b
    omega
  · have : j < 0 * 5 := b
    omega
  · dsimp only
    unfold clr0
    rw [if_pos (by omega), if_pos (by omega)]
theorem it_sim {thr lo n : Int} {f : Int → Int} (hn : 0 ≤ n ∧ n ≤ 12) {x y : FX} (h : SimF x y) (h1 : ∀ k : Nat, k ≤ 600 → 0 ≤ (itX thr lo n f k x).1.1.1) : ∀ k : Nat, k ≤ 600 → SimF (itX thr lo n f k x) (itX thr lo n f k y)
  | 0, _ => h
  | k + 1, hk => by
    have e := it_sim hn h h1 k (by omega)
    have hm := h1 k (by omega)
    rw [itX, itX]
    generalize itX thr lo n f k x = X at e hm ⊢
    generalize itX thr lo n f k y = Y at e ⊢
    have hx : nxtX X = nxtX Y := by
      unfold nxtX
      rw [← e.1.1.1]
      exact erl_sim e.1.1.2.2.2.2.1 e.1.1.2.2.2.2.2 _ (by omega)
    have hR := erl_R X.1.1.2.2.2.2.1 X.1.1.2.2.2.2.2 X.1.1.1.toNat
    rw [← hx]
    split
    · exact e
    · rename_i hc
      unfold nxtX at hc
      exact go_sim hn e ⟨by unfold nxtX; omega, by unfold nxtX; omega⟩
theorem fold_congr {g g' : Int → Int} {x : Int} : ∀ k : Nat, (∀ j : Int, 0 ≤ j → j < k → g j = g' j) → fold31 g k x = fold31 g' k x
  | 0, _ => rfl
  | k + 1, h => by
    have e := fold_congr (x := x) k (fun j a b => h j a (by omega))
    rw [fold31, fold31, e, h (k : Int) (by omega) (by omega)]
/-- the fingerprint of what is seen alone -/
theorem fp_sim {n lo z : Int} {f : Int → Int} {x y : FX} (h : SimF x y) : fpM n lo z x.2.1.1 x.1.1.1 x.2.2.1.1 f x.2.1.2.2 x.1.2.1 = fpM n lo z y.2.1.1 y.1.1.1 y.2.2.1.1 f y.2.1.2.2 y.1.2.1 := by
  obtain ⟨⟨⟨g0, -⟩, g6, -⟩, k0, k1, k2, k3, k4, k5⟩ := h
  unfold fpM
  rw [← g0, ← k1, ← k4, fold_congr (g := x.2.1.2.2) (g' := y.2.1.2.2) (5 * x.2.1.1).toNat (fun j a b => k3 j a (by omega))]
  exact fold_congr 48 (fun j a b => g6 j a (by omega))
theorem fp_wall {n lo z nh m cm : Int} {f f' Nn A : Int → Int} (h : EqB (n * 4) f f') : fpM n lo z nh m cm f Nn A = fpM n lo z nh m cm f' Nn A := by
  unfold fpM
  rw [fold_congr (g := f) (g' := f') (4 * n).toNat (fun j a b => h j a (by omega))]
