/-! what a shot keeps, and what a hit does -/
def RI (tb : Int) (x : RX) : Prop := 0 ≤ x.1 ∧ x.1 ≤ 100 ∧ ∀ j, 0 ≤ j → j < x.1 → (0 ≤ x.2.1 j ∧ x.2.1 j < 27720) ∧ (x.2.2.1 j ≠ 0 ∧ -13859 ≤ x.2.2.1 j ∧ x.2.2.1 j ≤ 13859) ∧ (0 ≤ x.2.2.2.1 j ∧ x.2.2.2.1 j ≤ 1000000) ∧ (0 ≤ x.2.2.2.2.1 j ∧ x.2.2.2.2.1 j ≤ tb) ∧ Z01 (x.2.2.2.2.2 j)
def HI2 (hb : Int) (y : (Int → Int) × Int × (Int → Int)) : Prop := (∀ j, 0 ≤ j → j < 48 → -100009 ≤ y.1 j ∧ y.1 j ≤ hb) ∧ (0 ≤ y.2.1 ∧ y.2.1 ≤ 600) ∧ ∀ j, 0 ≤ j → j < y.2.1 → 0 ≤ y.2.2 j ∧ y.2.2 j < 600
theorem RI_set {tb r m : Int} {P S E T U P' S' E' T' U' : Int → Int} (h : RI tb (m, P, S, E, T, U)) (ho : ∀ j, j ≠ r → P' j = P j ∧ S' j = S j ∧ E' j = E j ∧ T' j = T j ∧ U' j = U j) (hr : (0 ≤ P' r ∧ P' r < 27720) ∧ (S' r ≠ 0 ∧ -13859 ≤ S' r ∧ S' r ≤ 13859) ∧ (0 ≤ E' r ∧ E' r ≤ 1000000) ∧ (0 ≤ T' r ∧ T' r ≤ tb) ∧ Z01 (U' r)) : RI tb (m, P', S', E', T', U') := by
  refine ⟨h.1, h.2.1, fun j h0 h1 => ?_⟩
  by_cases hj : j = r
  · subst hj
    exact hr
  · obtain ⟨a, b, c, d, e⟩ := ho j hj
    have q := h.2.2 j h0 h1
    dsimp only at q ⊢
    rw [a, b, c, d, e]
    exact q
theorem RI_one {tb r m : Int} {P S E T U : Int → Int} (h : RI tb (m, P, S, E, T, U)) (hr : 0 ≤ r ∧ r < m) : (0 ≤ P r ∧ P r < 27720) ∧ (S r ≠ 0 ∧ -13859 ≤ S r ∧ S r ≤ 13859) ∧ (0 ≤ E r ∧ E r ≤ 1000000) ∧ (0 ≤ T r ∧ T r ≤ tb) ∧ Z01 (U r) := h.2.2 r hr.1 hr.2
theorem lose_b {e k : Int} (he : 0 ≤ e ∧ e ≤ 1000000) (hk : 0 ≤ k ∧ k ≤ 1000) : 0 ≤ e * (1000 - k) / 1000 ∧ e * (1000 - k) / 1000 ≤ 1000000 := by
  have h1 := Int.mul_nonneg (a := e) (b := 1000 - k) he.1 (by omega)
  have h2 := Int.mul_le_mul_of_nonneg_left (a := 1000 - k) (b := 1000) (c := e) (by omega) he.1
  omega
theorem tilt_ne {s k : Int} (h : ¬ tiltF s k = 0) : tiltF s k ≠ 0 ∧ -13859 ≤ tiltF s k ∧ tiltF s k ≤ 13859 := ⟨h, tilt_R s k⟩
theorem zup_o {f : Int → Int} {r x j : Int} (h : j ≠ r) : zup f r x j = f j := zup_n h
/-- an act keeps it: 'ta' the ray's own time, a chord less than tb -/
theorem act_RI {tb thr h kd k p r m ec : Int} {P S E T U A Ec : Int → Int} (hI : RI tb (m, P, S, E, T, U)) (hr : 0 ≤ r ∧ r < m) (ht : T r + 2000000 ≤ tb) (hk : (kd = 0 → 0 ≤ k ∧ k ≤ 1000) ∧ -9999 ≤ k ∧ k ≤ 9999) (hd : 0 ≤ kd ∧ kd ≤ 4) :
    RI tb (actX thr h kd k p r ((m, P, S, E, T, U), A, ec, Ec)).1 ∧ r < (actX thr h kd k p r ((m, P, S, E, T, U), A, ec, Ec)).1.1 ∧ (actX thr h kd k p r ((m, P, S, E, T, U), A, ec, Ec)).1.2.1 r = P r ∧ (actX thr h kd k p r ((m, P, S, E, T, U), A, ec, Ec)).1.2.2.2.2.1 r = T r := by
  have q := RI_one hI hr
  rcases (show kd = 0 ∨ kd = 1 ∨ kd = 2 ∨ kd = 3 ∨ kd = 4 by omega) with e | e | e | e | e
  · rw [act_0 e]
    refine ⟨RI_set (r := r) hI (fun j hj => ⟨rfl, rfl, zup_o hj, rfl, rfl⟩) ⟨q.1, q.2.1, ?_, q.2.2.2.1, q.2.2.2.2⟩, hr.2, rfl, rfl⟩
    rw [zup_s]
    exact lose_b q.2.2.1 (hk.1 e)
  · rw [act_1 e]
    refine ⟨RI_set (r := r) hI (fun j hj => ⟨rfl, zup_o hj, rfl, rfl, rfl⟩) ⟨q.1, ?_, q.2.2.1, q.2.2.2.1, q.2.2.2.2⟩, hr.2, rfl, rfl⟩
    rw [zup_s]
    omega
  · rw [act_2 e]
    refine ⟨RI_set (r := r) hI (fun j hj => ⟨rfl, zup_o hj, rfl, rfl, zup_o hj⟩) ⟨q.1, ?_, q.2.2.1, q.2.2.2.1, ?_⟩, hr.2, rfl, rfl⟩
    · rw [zup_s]
      split
      · exact q.2.1
      · rename_i hn
        exact tilt_ne hn
    · rw [zup_s]
      split
      · exact Or.inl rfl
      · exact q.2.2.2.2
  · rw [act_3 e]
    have he : RI tb (m, P, S, zup E r (E r - E r / 2), T, U) := by
      refine RI_set (r := r) hI (fun j hj => ⟨rfl, rfl, zup_o hj, rfl, rfl⟩) ⟨q.1, q.2.1, ?_, q.2.2.2.1, q.2.2.2.2⟩
      rw [zup_s]
      omega
    by_cases hc : ¬ tiltF (S r) k = 0 ∧ thr ≤ E r / 2
    · rw [sp_t hc]
      unfold bgM bgZ
      by_cases hm : m < 100
      · simp only [if_pos hm]
        refine ⟨⟨by have := hI.1; dsimp only at this ⊢; omega, by dsimp only; omega, fun j h0 h1 => ?_⟩, by omega, zup_o (by omega), zup_o (by omega)⟩
        dsimp only at h1 ⊢
        by_cases hj : j = m
        · subst hj
          rw [zup_s, zup_s, zup_s, zup_s, zup_s]
          have hch := chord_R (tilt_R (S r) k)
          exact ⟨q.1, tilt_ne hc.1, by omega, by omega, Or.inr rfl⟩
        · rw [zup_o hj, zup_o hj, zup_o hj, zup_o hj, zup_o hj]
          exact he.2.2 j h0 (by dsimp only; omega)
      · simp only [if_neg hm]
        refine ⟨he, hr.2, ?_, ?_⟩ <;> first | trivial | rfl
    · rw [sp_f hc]
      exact ⟨he, hr.2, rfl, rfl⟩
  · rw [act_4 e]
    exact ⟨hI, hr.2, rfl, rfl⟩
theorem act_HI {tb hb thr h kd k p r m ec : Int} {P S E T U A Ec : Int → Int} (hI : RI tb (m, P, S, E, T, U)) (hr : 0 ≤ r ∧ r < m) (hd : 0 ≤ kd ∧ kd ≤ 4) (hH : HI2 hb (A, ec, Ec)) (htb : tb ≤ hb) (hhb : 1000000 ≤ hb) (hh : 1 ≤ h ∧ h ≤ 600) (hp : 0 ≤ p ∧ p < 12) :
    HI2 (hb + 1000000) (actX thr h kd k p r ((m, P, S, E, T, U), A, ec, Ec)).2 := by
  have q := RI_one hI hr
  have hw : HI2 (hb + 1000000) (A, ec, Ec) := ⟨fun j h0 h1 => by have := hH.1 j h0 h1; dsimp only at this ⊢; omega, hH.2⟩
  rcases (show kd = 0 ∨ kd = 1 ∨ kd = 2 ∨ kd = 3 ∨ kd = 4 by omega) with e | e | e | e | e
  · rw [act_0 e]; exact hw
  · rw [act_1 e]; exact hw
  · rw [act_2 e]; exact hw
  · rw [act_3 e]; exact hw
  · rw [act_4 e]
    obtain ⟨a1, a2, a3⟩ := hH
    dsimp only at a1 a2 a3
    refine ⟨fun j h0 h1 => ?_, ?_, ?_⟩
    · dsimp only
      have b0 := a1 j h0 h1
      have b1 := a1 (p * 4) (by omega) (by omega)
      have b2 := a1 (p * 4 + 1) (by omega) (by omega)
      have b3 := a1 (p * 4 + 3) (by omega) (by omega)
      unfold hearF
      by_cases c3 : j = p * 4 + 3
      · subst c3
        rw [zup_s]
        omega
      · rw [zup_o c3]
        by_cases c1 : j = p * 4 + 1
        · subst c1
          rw [zup_s]
          omega
        · rw [zup_o c1]
          by_cases c0 : j = p * 4
          · subst c0
            rw [zup_s]
            omega
          · rw [zup_o c0]
            unfold hear1
            split
            · by_cases c2 : j = p * 4 + 2
              · subst c2
                rw [zup_s]
                omega
              · rw [zup_o c2]
                omega
            · omega
    · dsimp only
      by_cases hn : echoNew ec Ec h
      · rw [(eC_t hn).1]
        have := hn.2
        omega
      · rw [(eC_f hn).1]
        exact a2
    · dsimp only
      by_cases hn : echoNew ec Ec h
      · rw [(eC_t hn).1, (eC_t hn).2]
        intro j h0 h1
        by_cases hj : j = ec
        · subst hj
          rw [zup_s]
          omega
        · rw [zup_o hj]
          exact a3 j h0 (by omega)
      · rw [(eC_f hn).1, (eC_f hn).2]
        exact a3
/-- the parts, one after the other, as long as the ray goes -/
abbrev covP (f : Int → Int) (i p : Int) : Prop := (p - f (i * 4 + 1)) % 27720 < f (i * 4 + 2)
noncomputable def stepX (thr h r : Int) (f : Int → Int) (i : Int) (x : SX) : SX := if x.1.2.2.2.2.2 r = 0 then x else if covP f i (x.1.2.1 r) then actX thr h (f (i * 4 + 0)) (f (i * 4 + 3)) i r x else x
noncomputable def partsX (thr h r : Int) (f : Int → Int) : Nat → SX → SX
  | 0, x => x
  | k + 1, x => stepX thr h r f (k : Int) (partsX thr h r f k x)
theorem parts_s {thr h r : Int} {f : Int → Int} {x : SX} {i : Int} (hi : 0 ≤ i) : partsX thr h r f (i + 1).toNat x = stepX thr h r f i (partsX thr h r f i.toNat x) := by
  rw [show (i + 1).toNat = i.toNat + 1 by omega, partsX, Int.toNat_of_nonneg hi]
theorem parts_dead {thr h r : Int} {f : Int → Int} {x : SX} {k : Nat} (hd : (partsX thr h r f k x).1.2.2.2.2.2 r = 0) : ∀ d : Nat, partsX thr h r f (k + d) x = partsX thr h r f k x
  | 0 => rfl
  | d + 1 => by
    have e := parts_dead hd d
    show stepX thr h r f _ (partsX thr h r f (k + d) x) = _
    rw [e]
    exact if_pos hd
theorem RI_mono {tb tc : Int} {x : RX} (h : RI tb x) (ht : tb ≤ tc) : RI tc x := ⟨h.1, h.2.1, fun j h0 h1 => by have q := h.2.2 j h0 h1; exact ⟨q.1, q.2.1, q.2.2.1, ⟨q.2.2.2.1.1, by omega⟩, q.2.2.2.2⟩⟩
theorem HI_mono {hb hc : Int} {y : (Int → Int) × Int × (Int → Int)} (h : HI2 hb y) (ht : hb ≤ hc) : HI2 hc y := ⟨fun j h0 h1 => by have := h.1 j h0 h1; omega, h.2⟩
theorem parts_I {tb hb thr h r n p t : Int} {f : Int → Int} (hp : ∀ j, 0 ≤ j → j < n → PartOK f j) (hn : n ≤ 12) (ht : t + 2000000 ≤ tb) (htb : tb ≤ hb) (hhb : 1000000 ≤ hb) (hh : 1 ≤ h ∧ h ≤ 600) (hr : 0 ≤ r) :
    ∀ (k : Nat) (x : SX), (k : Int) ≤ n → RI tb x.1 → HI2 hb x.2 → r < x.1.1 → x.1.2.1 r = p → x.1.2.2.2.2.1 r = t →
      RI tb (partsX thr h r f k x).1 ∧ HI2 (hb + 1000000 * (k : Int)) (partsX thr h r f k x).2 ∧ r < (partsX thr h r f k x).1.1 ∧ (partsX thr h r f k x).1.2.1 r = p ∧ (partsX thr h r f k x).1.2.2.2.2.1 r = t
  | 0, x, _, h1, h2, h3, h4, h5 => ⟨h1, HI_mono h2 (by omega), h3, h4, h5⟩
  | k + 1, x, hk, h1, h2, h3, h4, h5 => by
    have e := parts_I (thr := thr) hp hn ht htb hhb hh hr k x (by omega) h1 h2 h3 h4 h5
    show RI tb (stepX thr h r f (k : Int) (partsX thr h r f k x)).1 ∧ HI2 _ (stepX thr h r f (k : Int) (partsX thr h r f k x)).2 ∧ r < (stepX thr h r f (k : Int) (partsX thr h r f k x)).1.1 ∧ (stepX thr h r f (k : Int) (partsX thr h r f k x)).1.2.1 r = p ∧ (stepX thr h r f (k : Int) (partsX thr h r f k x)).1.2.2.2.2.1 r = t
    generalize partsX thr h r f k x = y at e ⊢
    obtain ⟨⟨m, P, S, E, T, U⟩, A, ec, Ec⟩ := y
    obtain ⟨e1, e2, e3, e4, e5⟩ := e
    have hw : HI2 (hb + 1000000 * ((k + 1 : Nat) : Int)) (A, ec, Ec) := HI_mono e2 (by omega)
    unfold stepX
    split
    · exact ⟨e1, hw, e3, e4, e5⟩
    · split
      · have q := hp (k : Int) (by omega) (by omega)
        have a := act_RI (thr := thr) (h := h) (p := (k : Int)) (A := A) (ec := ec) (Ec := Ec) e1 ⟨hr, e3⟩ (by dsimp only at e5; omega) q.k q.1
        have b := act_HI (thr := thr) (h := h) (k := f ((k : Int) * 4 + 3)) (p := (k : Int)) e1 ⟨hr, e3⟩ q.1 e2 (by omega) (by omega) hh (by omega)
        exact ⟨a.1, HI_mono b (by omega), a.2.1, a.2.2.1.trans e4, a.2.2.2.trans e5⟩
      · exact ⟨e1, hw, e3, e4, e5⟩
def endR (thr r : Int) (x : RX) : RX :=
  (x.1, x.2.1, x.2.2.1, x.2.2.2.1,
    if x.2.2.2.1 r < thr ∨ x.2.2.2.2.2 r = 0 then x.2.2.2.2.1 else zup x.2.2.2.2.1 r (x.2.2.2.2.1 r + chordF (x.2.2.1 r)),
    if x.2.2.2.1 r < thr then zup x.2.2.2.2.2 r 0 else x.2.2.2.2.2)
section END_
variable {thr r m : Int} {P S E T U : Int → Int}
theorem end_a (h1 : thr ≤ E r) (h2 : ¬ U r = 0) : endR thr r (m, P, S, E, T, U) = (m, P, S, E, zup T r (T r + chordF (S r)), U) := by
  unfold endR
  dsimp only
  rw [if_neg (by omega), if_neg (by omega)]
theorem end_b (h1 : E r < thr) : endR thr r (m, P, S, E, T, U) = (m, P, S, E, T, zup U r 0) := by
  unfold endR
  dsimp only
  rw [if_pos (Or.inl h1), if_pos h1]
theorem end_c (h1 : thr ≤ E r) (h2 : U r = 0) : endR thr r (m, P, S, E, T, U) = (m, P, S, E, T, U) := by
  unfold endR
  dsimp only
  rw [if_pos (Or.inr h2), if_neg (by omega)]
end END_
/-- where the ray comes to, and the state in which the parts find it -/
def newP (x : RX) (r : Int) : Int := (x.2.1 r + x.2.2.1 r) % 27720
def hit0 (lo r : Int) (x : RX) : RX := (x.1, zup x.2.1 r (newP x r), x.2.2.1, zup x.2.2.2.1 r (x.2.2.2.1 r * (1000 - lo) / 1000), x.2.2.2.2.1, x.2.2.2.2.2)
noncomputable def hitX (thr lo h n r : Int) (f : Int → Int) (x : SX) : SX := partsX thr (h + 1) r f n.toNat (hit0 lo r x.1, x.2)
theorem hit0_I {tb lo r m : Int} {P S E T U : Int → Int} (hI : RI tb (m, P, S, E, T, U)) (hr : 0 ≤ r ∧ r < m) (hlo : 0 ≤ lo ∧ lo ≤ 999) : RI tb (hit0 lo r (m, P, S, E, T, U)) := by
  have q := RI_one hI hr
  unfold hit0 newP
  refine RI_set (r := r) hI (fun j hj => ⟨zup_o hj, rfl, zup_o hj, rfl, rfl⟩) ⟨?_, q.2.1, ?_, q.2.2.2.1, q.2.2.2.2⟩
  · rw [zup_s]
    omega
  · rw [zup_s]
    exact lose_b q.2.2.1 (by omega)
def pthC (r c : Int) : Int := if r = 0 then goC c else c
def pthF (r : Int) (Cn : Int → Int) (c p : Int) : Int → Int := if r = 0 then goF Cn c p else Cn
section STEP
variable {thr h r m ec i : Int} {f P S E T U A Ec : Int → Int}
theorem step_n (h1 : ¬ U r = 0) (h2 : ¬ covP f i (P r)) : stepX thr h r f i ((m, P, S, E, T, U), A, ec, Ec) = ((m, P, S, E, T, U), A, ec, Ec) := by
  unfold stepX
  rw [if_neg h1, if_neg h2]
theorem step_y (h1 : ¬ U r = 0) (h2 : covP f i (P r)) : stepX thr h r f i ((m, P, S, E, T, U), A, ec, Ec) = actX thr h (f (i * 4 + 0)) (f (i * 4 + 3)) i r ((m, P, S, E, T, U), A, ec, Ec) := by
  unfold stepX
  rw [if_neg h1, if_pos h2]
end STEP
theorem parts_dead2 {thr h r : Int} {f : Int → Int} {x y : SX} {i n : Int} (hx : y = partsX thr h r f i.toNat x) (hd : y.1.2.2.2.2.2 r = 0) (h0 : 0 ≤ i) (h1 : i ≤ n) : y = partsX thr h r f n.toNat x := by
  have e := parts_dead (thr := thr) (h := h) (r := r) (f := f) (x := x) (k := i.toNat) (by rw [← hx]; exact hd) (n.toNat - i.toNat)
  rw [show i.toNat + (n.toNat - i.toNat) = n.toNat by omega] at e
  rw [hx, e]
