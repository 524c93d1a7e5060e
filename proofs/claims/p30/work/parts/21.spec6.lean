/-! a whole shot: rays and what is heard; hits, their energies, the log; the marks; the path -/
abbrev FX : Type := SX × (Int × Int × (Int → Int)) × (Int × (Int → Int)) × Int × (Int → Int)
noncomputable def goX (thr lo n : Int) (f : Int → Int) (r : Int) (y : FX) : FX :=
  ((endR thr r (hitX thr lo y.2.1.1 n r f y.1).1, (hitX thr lo y.2.1.1 n r f y.1).2), (y.2.1.1 + 1, y.2.1.2.1 + y.1.1.2.2.2.1 r, noteF y.2.1.2.2 y.2.1.1 r (newP y.1.1 r) (y.1.1.2.2.2.2.1 r) (y.1.1.2.2.2.1 r) (y.1.1.2.2.1 r)), (mkC y.2.2.1.2 (newP y.1.1 r) y.2.2.1.1, mkF y.2.2.1.2 (newP y.1.1 r)), pthC r y.2.2.2.1, pthF r y.2.2.2.2 y.2.2.2.1 (newP y.1.1 r))
def nxtX (y : FX) : Int := erlF y.1.1.2.2.2.2.1 y.1.1.2.2.2.2.2 y.1.1.1.toNat
noncomputable def itX (thr lo n : Int) (f : Int → Int) : Nat → FX → FX
  | 0, y => y
  | k + 1, y => if nxtX (itX thr lo n f k y) = -1 then itX thr lo n f k y else goX thr lo n f (nxtX (itX thr lo n f k y)) (itX thr lo n f k y)
theorem it_s {thr lo n : Int} {f : Int → Int} {y : FX} {i : Int} (hi : 0 ≤ i) : itX thr lo n f (i + 1).toNat y = if nxtX (itX thr lo n f i.toNat y) = -1 then itX thr lo n f i.toNat y else goX thr lo n f (nxtX (itX thr lo n f i.toNat y)) (itX thr lo n f i.toNat y) := by
  rw [show (i + 1).toNat = i.toNat + 1 by omega, itX]
theorem it_dead {thr lo n : Int} {f : Int → Int} {y : FX} {k : Nat} (hd : nxtX (itX thr lo n f k y) = -1) : ∀ d : Nat, itX thr lo n f (k + d) y = itX thr lo n f k y
  | 0 => rfl
  | d + 1 => by
    have e := it_dead hd d
    show (if nxtX (itX thr lo n f (k + d) y) = -1 then itX thr lo n f (k + d) y else _) = _
    rw [e]
    exact if_pos hd
/-- what a shot keeps after k hits at the most -/
def FI (k : Int) (y : FX) : Prop := RI ((k + 1) * 2000000) y.1.1 ∧ HI2 (4000000000 + k * 12000000) y.1.2 ∧ (0 ≤ y.2.1.1 ∧ y.2.1.1 ≤ k) ∧ (0 ≤ y.2.2.1.1 ∧ y.2.2.1.1 ≤ y.2.1.1) ∧ (∀ i, R64 (y.2.2.1.2 i)) ∧ (0 ≤ y.2.2.2.1 ∧ y.2.2.2.1 ≤ 201) ∧ (∀ j, 0 ≤ j → j < y.2.2.2.1 → 0 ≤ y.2.2.2.2 j ∧ y.2.2.2.2 j < 27720) ∧ (0 ≤ y.2.1.2.1 ∧ y.2.1.2.1 ≤ 1000000 * y.2.1.1)
def WallOK (n lo thr : Int) (f : Int → Int) : Prop := (0 ≤ n ∧ n ≤ 12) ∧ (0 ≤ lo ∧ lo ≤ 999) ∧ (1 ≤ thr ∧ thr ≤ 1000000) ∧ ∀ j, 0 ≤ j → j < n → PartOK f j
theorem endR_I {tb thr r : Int} {x : RX} (hI : RI tb x) (hr : 0 ≤ r ∧ r < x.1) (ht : x.2.2.2.2.1 r + 2000000 ≤ tb) : RI tb (endR thr r x) := by
  obtain ⟨m, P, S, E, T, U⟩ := x
  have q := RI_one hI hr
  have hc := chord_R (s := S r) q.2.1.2
  dsimp only at ht hr
  by_cases h1 : E r < thr
  · rw [end_b h1]
    refine RI_set (r := r) hI (fun j hj => ⟨rfl, rfl, rfl, rfl, zup_o hj⟩) ⟨q.1, q.2.1, q.2.2.1, q.2.2.2.1, ?_⟩
    rw [zup_s]
    exact Or.inl rfl
  · by_cases h2 : U r = 0
    · rw [end_c (by omega) h2]
      exact hI
    · rw [end_a (by omega) h2]
      refine RI_set (r := r) hI (fun j hj => ⟨rfl, rfl, rfl, zup_o hj, rfl⟩) ⟨q.1, q.2.1, q.2.2.1, ?_, q.2.2.2.2⟩
      rw [zup_s]
      omega
theorem endR_m {thr r : Int} {x : RX} : (endR thr r x).1 = x.1 := rfl
theorem mkC_b {f : Int → Int} {x c : Int} : c ≤ mkC f x c ∧ mkC f x c ≤ c + 1 := by unfold mkC; split <;> omega
theorem go_I {thr lo n k r : Int} {f : Int → Int} {y : FX} (hW : WallOK n lo thr f) (hI : FI k y) (hk : 0 ≤ k ∧ k < 600) (hr : 0 ≤ r ∧ r < y.1.1.1) : FI (k + 1) (goX thr lo n f r y) := by
  obtain ⟨⟨⟨m, P, S, E, T, U⟩, A, ec, Ec⟩, ⟨h, es, Nn⟩, ⟨c, wd⟩, pc, Cn⟩ := y
  obtain ⟨i1, i2, i3, i4, i5, i6, i7, i8⟩ := hI
  obtain ⟨w1, w2, w3, w4⟩ := hW
  dsimp only at i1 i2 i3 i4 i5 i6 i7 i8 hr
  have q := RI_one i1 hr
  have hp1 : 0 ≤ newP (m, P, S, E, T, U) r ∧ newP (m, P, S, E, T, U) r < 27720 := by unfold newP; dsimp only; omega
  have hI0 := hit0_I (lo := lo) (RI_mono i1 (show (k + 1) * 2000000 ≤ (k + 1 + 1) * 2000000 by omega)) hr w2
  have hJ := parts_I (thr := thr) (h := h + 1) (tb := (k + 1 + 1) * 2000000) (hb := 4000000000 + k * 12000000) (t := T r) (p := newP (m, P, S, E, T, U) r) w4 w1.2 (by omega) (by omega) (by omega) (by omega) hr.1 n.toNat (hit0 lo r (m, P, S, E, T, U), A, ec, Ec) (by omega) hI0 i2 hr.2 zup_s rfl
  have e9 : hitX thr lo h n r f ((m, P, S, E, T, U), A, ec, Ec) = partsX thr (h + 1) r f n.toNat (hit0 lo r (m, P, S, E, T, U), A, ec, Ec) := rfl
  unfold goX
  dsimp only
  rw [e9]
  generalize partsX thr (h + 1) r f n.toNat (hit0 lo r (m, P, S, E, T, U), A, ec, Ec) = X at hJ ⊢
  obtain ⟨j1, j2, j3, j4, j5⟩ := hJ
  have hmc := mkC_b (f := wd) (x := newP (m, P, S, E, T, U) r) (c := c)
  refine ⟨endR_I j1 ⟨hr.1, j3⟩ (by omega), HI_mono j2 (by omega), by dsimp only; omega, by dsimp only; omega, mkF_R i5, ?_, ?_, ?_⟩
  · dsimp only
    unfold pthC goC
    split
    · split <;> omega
    · omega
  · dsimp only
    unfold pthC pthF goC goF
    split
    · split
      · intro j h0 h1
        by_cases hj : j = pc
        · subst hj
          rw [zup_s]
          exact hp1
        · rw [zup_o hj]
          exact i7 j h0 (by omega)
      · exact i7
    · exact i7
  · dsimp only
    have := q.2.2.1
    omega
def ini0 (p s e : Int) (y : FX) : FX :=
  (((bgM 0, bgZ y.1.1.2.1 0 p, bgZ y.1.1.2.2.1 0 s, bgZ y.1.1.2.2.2.1 0 e, bgZ y.1.1.2.2.2.2.1 0 (chordF s), bgZ y.1.1.2.2.2.2.2 0 1), ear0 y.1.2.1 12, 0, y.1.2.2.2), (0, 0, y.2.1.2.2), (0, clr0 y.2.2.1.2 434), 1, zup y.2.2.2.2 0 p)
theorem ini_I {p s e : Int} {y : FX} (hp : 0 ≤ p ∧ p < 27720) (hs : s ≠ 0 ∧ -13859 ≤ s ∧ s ≤ 13859) (he : 1 ≤ e ∧ e ≤ 1000000) (hw : ∀ i, R64 (y.2.2.1.2 i)) : FI 0 (ini0 p s e y) := by
  have hc := chord_R hs.2
  refine ⟨⟨show 0 ≤ bgM 0 by decide, show bgM 0 ≤ 100 by decide, fun j h0 h1 => ?_⟩, ⟨fun j h0 h1 => ?_, show (0 : Int) ≤ 0 ∧ (0 : Int) ≤ 600 by decide, fun j h0 h1 => ?_⟩, show (0 : Int) ≤ 0 ∧ (0 : Int) ≤ 0 by decide, show (0 : Int) ≤ 0 ∧ (0 : Int) ≤ 0 by decide, ?_, show (0 : Int) ≤ 1 ∧ (1 : Int) ≤ 201 by decide, fun j h0 h1 => ?_, show (0 : Int) ≤ 0 ∧ (0 : Int) ≤ 1000000 * 0 by decide⟩
  · have hj : j = 0 := by
      have : j < 1 := h1
      omega
    subst hj
    unfold ini0 bgZ
    dsimp only
    rw [if_pos (by decide), if_pos (by decide), if_pos (by decide), if_pos (by decide), if_pos (by decide), zup_s, zup_s, zup_s, zup_s, zup_s]
    exact ⟨hp, hs, by omega, by omega, Or.inr rfl⟩
  · unfold ini0 ear0
    dsimp only
    rw [if_pos (by omega)]
    split <;> omega
  · have : j < 0 := h1
    omega
  · intro i
    unfold ini0 clr0
    dsimp only
    split
    · decide
    · exact hw i
  · have hj : j = 0 := by
      have : j < 1 := h1
      omega
    subst hj
    unfold ini0
    dsimp only
    rw [zup_s]
    exact hp
theorem V_astoreN {l : Launch} {G : GT} {own nm : String} {cc : ByteArray} {nL : Nat} {rm : Room} {K : KT} {cs : Nat × Nat} {pc : Nat} {lv lv' : List (Option Value)} {st : List Value} {ws : va_W} (h : Good l G own nm cc nL rm K) {i : Nat} (hd : decode cc pc = .ok (.astore i, 2)) (hn : i < lv.length) (hp : pok lv i = true) (hs : lv.set i (some .null) = lv') (k : V K cs (pc + 2) lv' st ws) : V K cs pc lv (.null :: st) ws := fun H locs ls hP hD hS hL => lv_astoreN h.1 h.2.1 hd hL.to hn rfl (fun ls2 hl2 => k H locs ls2 hP hD hS (hasL.st1 hn hp hs hl2))
