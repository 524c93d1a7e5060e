/-! p30: a whole shot keeps it -/
section NOTE2
variable {N : Int → Int} {h r p t e s : Int}
theorem note_2 : noteF N h r p t e s (h * 5 + 2) = t := by
  unfold noteF
  rw [zup_n (by omega), zup_n (by omega), zup_s]
theorem note_4 : noteF N h r p t e s (h * 5 + 4) = s := by
  unfold noteF
  rw [zup_s]
end NOTE2
theorem erl_min {T U : Int → Int} : ∀ k : Nat, (erlF T U k = -1 → ∀ j : Int, 0 ≤ j → j < k → U j = 0) ∧ (erlF T U k ≠ -1 → U (erlF T U k) ≠ 0 ∧ ∀ j : Int, 0 ≤ j → j < k → U j ≠ 0 → T (erlF T U k) ≤ T j)
  | 0 => ⟨fun _ j a b => by omega, fun h => absurd rfl h⟩
  | k + 1 => by
    obtain ⟨a, b⟩ := erl_min (T := T) (U := U) k
    have hR := erl_R T U k
    rw [erlF]
    by_cases hc : ¬ U (k : Int) = 0 ∧ (erlF T U k = -1 ∨ T (k : Int) < T (erlF T U k))
    · rw [if_pos hc]
      refine ⟨fun q => by omega, fun _ => ⟨hc.1, fun j h0 h1 hj => ?_⟩⟩
      by_cases hk : j = (k : Int)
      · rw [hk]; exact Int.le_refl _
      · rcases hc.2 with q | q
        · exact absurd (a q j h0 (by omega)) hj
        · by_cases hq : erlF T U k = -1
          · exact absurd (a hq j h0 (by omega)) hj
          · have := (b hq).2 j h0 (by omega) hj
            omega
    · rw [if_neg hc]
      refine ⟨fun q j h0 h1 => ?_, fun q => ⟨(b q).1, fun j h0 h1 hj => ?_⟩⟩
      · by_cases hk : j = (k : Int)
        · rw [hk]
          apply Decidable.byContradiction
          intro z
          exact hc ⟨z, Or.inl q⟩
        · exact a q j h0 (by omega)
      · by_cases hk : j = (k : Int)
        · rw [hk] at hj ⊢
          apply Int.not_lt.mp
          intro z
          exact hc ⟨hj, Or.inr z⟩
        · exact (b q).2 j h0 (by omega) hj
def GI (n e0 p0 s0 : Int) (f : Int → Int) (x : FX) : Prop :=
  1 ≤ x.1.1.1 ∧ (∀ i, 0 ≤ i → i < x.2.1.1 → HitOK x.2.1.2.2 x.1.1.1 e0 p0 s0 i) ∧
  (∀ j, 0 ≤ j → j < x.1.1.1 → (0 ≤ x.1.1.2.2.2.1 j ∧ x.1.1.2.2.2.1 j ≤ e0) ∧ RayOK (chordF s0) (lastT x.2.1.2.2 x.2.1.1) x.1.1.2.2.1 x.1.1.2.2.2.2.1 x.1.1.2.2.2.2.2 j) ∧
  (x.1.1.2.1 0 = (ch0 x.2.1.2.2 p0 x.2.1.1.toNat).1 ∧ (x.1.1.2.2.2.2.2 0 ≠ 0 → x.1.1.2.2.2.2.1 0 = (ch0 x.2.1.2.2 p0 x.2.1.1.toNat).2 + chordF (x.1.1.2.2.1 0))) ∧
  (x.2.1.1 = 0 → x.1.1.1 = 1 ∧ x.1.1.2.2.1 0 = s0 ∧ x.1.1.2.2.2.1 0 = e0 ∧ x.1.1.2.2.2.2.2 0 ≠ 0) ∧
  EarOK n (chordF s0) e0 f x.2.1.1 (12 * x.2.1.1) x.1.2 ∧ x.2.1.2.1 = sumE x.2.1.2.2 x.2.1.1.toNat
theorem sumE_congr {N N' : Int → Int} : ∀ k : Nat, (∀ j : Int, 0 ≤ j → j < (k : Int) * 5 → N j = N' j) → sumE N k = sumE N' k
  | 0, _ => rfl
  | k + 1, h => by
    have e := sumE_congr k (fun j a b => h j a (by omega))
    rw [sumE, sumE, e, h ((k : Int) * 5 + 3) (by omega) (by omega)]
theorem go_GI {thr lo n k r e0 p0 s0 : Int} {f : Int → Int} {y : FX} (hW : WallOK n lo thr f) (hI : FI k y) (hG : GI n e0 p0 s0 f y) (hk : 0 ≤ k ∧ k < 600) (hs0 : isStepP s0) (hr : 0 ≤ r ∧ r < y.1.1.1) (hU : y.1.1.2.2.2.2.2 r ≠ 0) (hmin : ∀ j : Int, 0 ≤ j → j < y.1.1.1 → y.1.1.2.2.2.2.2 j ≠ 0 → y.1.1.2.2.2.2.1 r ≤ y.1.1.2.2.2.2.1 j) : GI n e0 p0 s0 f (goX thr lo n f r y) := by
  obtain ⟨⟨⟨m, P, S, E, T, U⟩, A, ec, Ec⟩, ⟨h, es, Nn⟩, ⟨c, wd⟩, pc, Cn⟩ := y
  obtain ⟨i1, i2, i3, i4, i5, i6, i7, i8⟩ := hI
  obtain ⟨g1, g2, g3, g4, g5, g6, g7⟩ := hG
  obtain ⟨w1, w2, w3, w4⟩ := hW
  dsimp only at i1 i2 i3 i4 i5 i6 i7 i8 hr g1 g2 g3 g4 g5 g6 g7 hU hmin
  have q := RI_one i1 hr
  have hp1 : 0 ≤ newP (m, P, S, E, T, U) r ∧ newP (m, P, S, E, T, U) r < 27720 := by unfold newP; dsimp only; omega
  have hI0 := hit0_I (lo := lo) (RI_mono i1 (show (k + 1) * 2000000 ≤ (k + 1 + 1) * 2000000 by omega)) hr w2
  have hJ := parts_I (thr := thr) (h := h + 1) (tb := (k + 1 + 1) * 2000000) (hb := 4000000000 + k * 12000000) (t := T r) (p := newP (m, P, S, E, T, U) r) w4 w1.2 (by omega) (by omega) (by omega) (by omega) hr.1 n.toNat (hit0 lo r (m, P, S, E, T, U), A, ec, Ec) (by omega) hI0 i2 hr.2 zup_s rfl
  have hcs := chord_nn hs0
  obtain ⟨r1, r2⟩ := g3 r hr.1 hr.2
  have r3 := r2 hU
  have hM0 : MidOK n (chordF s0) e0 (h + 1) (12 * h) m r (T r) f (P 0, S 0, T 0, U 0) (hit0 lo r (m, P, S, E, T, U), A, ec, Ec) := by
    refine ⟨⟨g1, Int.le_refl _⟩, fun j a b => ?_, fun hz => ?_, ear_mono g6 (by omega) (Int.le_refl _)⟩
    · have gj := g3 j a b
      unfold hit0
      dsimp only
      refine ⟨?_, fun hj u => ?_⟩
      · by_cases hj : j = r
        · rw [hj, zup_s]
          have := lose_le (k := lo) r1.1 (by omega)
          omega
        · rw [zup_n hj]
          exact gj.1
      · have gu := gj.2 u
        have gm := hmin j a b u
        exact ⟨gu.1, gu.2.1, gm⟩
    · unfold hit0
      dsimp only
      exact ⟨zup_n (Ne.symm hz), rfl, rfl, rfl⟩
  have hMd := parts_Mid (thr := thr) (h := h + 1) (tb := (k + 1 + 1) * 2000000) (hb := 4000000000 + k * 12000000) (p := newP (m, P, S, E, T, U) r) w4 w1.2 ⟨hcs.1, r3.2.1⟩ (by omega) (by omega) (by omega) (by omega) hr.1 n.toNat (hit0 lo r (m, P, S, E, T, U), A, ec, Ec) (by omega) hI0 i2 hr.2 zup_s rfl hM0
  have e9 : hitX thr lo h n r f ((m, P, S, E, T, U), A, ec, Ec) = partsX thr (h + 1) r f n.toNat (hit0 lo r (m, P, S, E, T, U), A, ec, Ec) := rfl
  unfold goX
  dsimp only
  rw [e9]
  generalize partsX thr (h + 1) r f n.toNat (hit0 lo r (m, P, S, E, T, U), A, ec, Ec) = X at hJ hMd ⊢
  obtain ⟨⟨m1, P1, S1, E1, T1, U1⟩, A1, ec1, Ec1⟩ := X
  obtain ⟨j1, j2, j3, j4, j5⟩ := hJ
  obtain ⟨m1', m2', m3', m4'⟩ := hMd
  dsimp only at j1 j2 j3 j4 j5 m1' m2' m3' m4'
  have q1 := RI_one j1 ⟨hr.1, j3⟩
  have hc1 := chord_R q1.2.1.2
  generalize hp : newP (m, P, S, E, T, U) r = p at *
  have hpe : p = (P r + S r) % 27720 := hp.symm
  have hNo : ∀ j : Int, 0 ≤ j → j < h * 5 → noteF Nn h r p (T r) (E r) (S r) j = Nn j := fun j _ b => note_o b
  have hch : ch0 (noteF Nn h r p (T r) (E r) (S r)) p0 h.toNat = ch0 Nn p0 h.toNat := ch0_congr h.toNat (fun j a b => hNo j a (by omega))
  have hcs1 := ch0_s (N := noteF Nn h r p (T r) (E r) (S r)) (p0 := p0) (h := h) i3.1
  rw [note_0, note_1, note_2, hch] at hcs1
  have hlt : lastT (noteF Nn h r p (T r) (E r) (S r)) (h + 1) = T r := by
    unfold lastT
    rw [if_neg (by omega), show h + 1 - 1 = h by omega, note_2]
  have hEr : endR thr r (m1, P1, S1, E1, T1, U1) = (m1, P1, S1, E1, (endR thr r (m1, P1, S1, E1, T1, U1)).2.2.2.2.1, (endR thr r (m1, P1, S1, E1, T1, U1)).2.2.2.2.2) := rfl
  have hEo : ∀ j : Int, j ≠ r → (endR thr r (m1, P1, S1, E1, T1, U1)).2.2.2.2.1 j = T1 j ∧ (endR thr r (m1, P1, S1, E1, T1, U1)).2.2.2.2.2 j = U1 j := by
    intro j hj
    by_cases h1 : E1 r < thr
    · rw [end_b h1]
      exact ⟨rfl, zup_n hj⟩
    · by_cases h2 : U1 r = 0
      · rw [end_c (by omega) h2]
        exact ⟨rfl, rfl⟩
      · rw [end_a (by omega) h2]
        exact ⟨zup_n hj, rfl⟩
  have hEs : (endR thr r (m1, P1, S1, E1, T1, U1)).2.2.2.2.2 r ≠ 0 → (endR thr r (m1, P1, S1, E1, T1, U1)).2.2.2.2.1 r = T r + chordF (S1 r) := by
    intro hu
    by_cases h1 : E1 r < thr
    · rw [end_b h1] at hu
      exact absurd zup_s hu
    · by_cases h2 : U1 r = 0
      · rw [end_c (by omega) h2] at hu
        exact absurd h2 hu
      · rw [end_a (by omega) h2]
        dsimp only
        rw [zup_s, j5]
  rw [hEr]
  generalize (endR thr r (m1, P1, S1, E1, T1, U1)).2.2.2.2.1 = T2 at *
  generalize (endR thr r (m1, P1, S1, E1, T1, U1)).2.2.2.2.2 = U2 at *
  clear hEr
  refine ⟨by dsimp only; omega, fun i a b => ?_, fun j a b => ?_, ⟨?_, fun u => ?_⟩, fun z => ?_, ?_, ?_⟩
  · dsimp only at b ⊢
    by_cases hi : i = h
    · subst hi
      unfold HitOK
      rw [note_0, note_1, note_2, note_3, note_4, hch]
      refine ⟨⟨hr.1, j3⟩, hp1, ⟨r3.1, by omega⟩, r1, q.2.1, fun hi1 => ?_, fun hz => ?_, fun hz => ?_⟩
      · rw [hNo _ (by omega) (by omega)]
        have := r3.2.2
        unfold lastT at this
        rw [if_neg (by omega)] at this
        exact this
      · subst hz
        exact ⟨g4.2 hU, by rw [hpe, g4.1]⟩
      · have gz := g5 hz
        have hr0 : r = 0 := by omega
        subst hr0
        exact ⟨rfl, gz.2.1, gz.2.2.1⟩
    · exact hit_congr (g2 i a (by omega)) a (by omega) (fun j c d => hNo j c (by omega))
  · dsimp only at b ⊢
    rw [hlt]
    have mj := m2' j a b
    refine ⟨mj.1, ?_⟩
    by_cases hj : j = r
    · subst hj
      intro u
      have := hEs u
      omega
    · exact ray_o (mj.2 hj) rfl (hEo j hj).1 (hEo j hj).2
  · dsimp only
    rw [hcs1]
    by_cases hz : r = 0
    · subst hz
      rw [if_pos rfl]
      exact j4
    · rw [if_neg hz, (m3' hz).1]
      exact g4.1
  · dsimp only at u ⊢
    rw [hcs1]
    by_cases hz : r = 0
    · subst hz
      rw [if_pos rfl]
      exact hEs u
    · obtain ⟨z1, z2, z3, z4⟩ := m3' hz
      have ho := hEo 0 (Ne.symm hz)
      rw [ho.2, z4] at u
      rw [if_neg hz, ho.1, z3, z2]
      exact g4.2 u
  · dsimp only at z
    omega
  · dsimp only
    exact ear_mono m4' (Int.le_refl _) (by omega)
  · dsimp only
    rw [sumE_s i3.1, note_3, g7, sumE_congr h.toNat (fun j a b => hNo j a (by omega))]
theorem ini_GI {n p s e : Int} {f : Int → Int} {y : FX} (hs : isStepP s) (he : 1 ≤ e) : GI n e p s f (ini0 p s e y) := by
  have hb : ∀ (f : Int → Int) (x : Int), bgZ f 0 x 0 = x := fun f x => by unfold bgZ; rw [if_pos (by decide), zup_s]
  have hcs := chord_nn hs
  unfold ini0 GI
  dsimp only
  refine ⟨by decide, fun i a b => by omega, fun j a b => ?_, ⟨hb _ _, fun _ => ?_⟩, fun _ => ⟨rfl, hb _ _, hb _ _, by rw [hb]; decide⟩, ?_, rfl⟩
  · have hj : j = 0 := by
      have : j < 1 := b
      omega
    subst hj
    unfold RayOK
    rw [hb, hb, hb, hb]
    exact ⟨by omega, fun _ => ⟨Int.le_refl _, Int.le_refl _, hcs.1⟩⟩
  · rw [hb, hb]
    show _ = (0 : Int) + _
    omega
  · have h0 : ∀ j : Int, 0 ≤ j → j < 48 → ear0 y.1.2.1 12 j = if j % 4 = 2 then -100009 else 0 := fun j a b => by unfold ear0; rw [if_pos (by omega)]
    have hs0 : sumA (ear0 y.1.2.1 12) 12 = 0 := by
      rw [sumA_12]
      rw [h0 0 (by decide) (by decide), h0 4 (by decide) (by decide), h0 8 (by decide) (by decide), h0 12 (by decide) (by decide), h0 16 (by decide) (by decide), h0 20 (by decide) (by decide), h0 24 (by decide) (by decide), h0 28 (by decide) (by decide), h0 32 (by decide) (by decide), h0 36 (by decide) (by decide), h0 40 (by decide) (by decide), h0 44 (by decide) (by decide)]
      rfl
    unfold EarOK
    dsimp only
    rw [hs0]
    refine ⟨fun q a b => ?_, Int.le_refl _, fun j a b => by omega, fun j a b => by omega, Int.le_refl _, fun z => by omega, by decide⟩
    unfold EarP
    rw [show ear0 y.1.2.1 12 (q * 4) = 0 by rw [h0 _ (by omega) (by omega)]; exact if_neg (by omega), show ear0 y.1.2.1 12 (q * 4 + 1) = 0 by rw [h0 _ (by omega) (by omega)]; exact if_neg (by omega), show ear0 y.1.2.1 12 (q * 4 + 2) = -100009 by rw [h0 _ (by omega) (by omega)]; exact if_pos (by omega), show ear0 y.1.2.1 12 (q * 4 + 3) = 0 by rw [h0 _ (by omega) (by omega)]; exact if_neg (by omega)]
    exact ⟨by omega, by omega, by omega, fun _ => ⟨rfl, rfl, rfl⟩, fun z => absurd rfl z⟩
theorem it_GI {thr lo n e0 p0 s0 : Int} {f : Int → Int} {y : FX} (hW : WallOK n lo thr f) (hs0 : isStepP s0) (hI : FI 0 y) (hG : GI n e0 p0 s0 f y) : ∀ k : Nat, k ≤ 600 → FI (k : Int) (itX thr lo n f k y) ∧ GI n e0 p0 s0 f (itX thr lo n f k y)
  | 0, _ => ⟨hI, hG⟩
  | k + 1, hk => by
    obtain ⟨a, b⟩ := it_GI hW hs0 hI hG k (by omega)
    rw [itX]
    by_cases hx : nxtX (itX thr lo n f k y) = -1
    · rw [if_pos hx]
      refine ⟨?_, b⟩
      obtain ⟨a1, a2, a3, a4⟩ := a
      exact ⟨RI_mono a1 (by omega), HI_mono a2 (by omega), ⟨a3.1, by omega⟩, a4⟩
    · rw [if_neg hx]
      generalize itX thr lo n f k y = Y at *
      have hR := erl_R Y.1.1.2.2.2.2.1 Y.1.1.2.2.2.2.2 Y.1.1.1.toNat
      have hm := (erl_min (T := Y.1.1.2.2.2.2.1) (U := Y.1.1.2.2.2.2.2) Y.1.1.1.toNat).2 hx
      have h1 := b.1
      have hr : 0 ≤ nxtX Y ∧ nxtX Y < Y.1.1.1 := by
        unfold nxtX at hx ⊢
        omega
      exact ⟨go_I hW a ⟨by omega, by omega⟩ hr, go_GI hW a b ⟨by omega, by omega⟩ hs0 hr hm.1 (fun j c d => hm.2 j c (by omega))⟩
theorem it_h {thr lo n : Int} {f : Int → Int} {p s e : Int} {y : FX} : ∀ k : Nat, 1 ≤ (itX thr lo n f (k + 1) (ini0 p s e y)).2.1.1
  | 0 => by
    rw [itX]
    have hx : ¬ nxtX (itX thr lo n f 0 (ini0 p s e y)) = -1 := by
      intro q
      have := (erl_min (T := (ini0 p s e y).1.1.2.2.2.2.1) (U := (ini0 p s e y).1.1.2.2.2.2.2) (ini0 p s e y).1.1.1.toNat).1 q 0 (Int.le_refl _) (show (0 : Int) < ((bgM 0).toNat : Int) by decide)
      unfold ini0 bgZ at this
      dsimp only at this
      rw [if_pos (by decide), zup_s] at this
      exact absurd this (by decide)
    rw [if_neg hx]
    exact (show (1 : Int) ≤ 0 + 1 by decide)
  | k + 1 => by
    have e := it_h (thr := thr) (lo := lo) (n := n) (f := f) (p := p) (s := s) (e := e) (y := y) k
    rw [itX]
    split
    · exact e
    · unfold goX
      dsimp only
      omega
