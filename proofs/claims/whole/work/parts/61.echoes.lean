/-! echoes, ears, the path: both ways are one -/
def cntE (ie : Int → Int) : Nat → Int
  | 0 => 0
  | k + 1 => cntE ie k + (if ie (k : Int) = 0 then 0 else 1)
theorem cntE_R {ie : Int → Int} : ∀ k : Nat, 0 ≤ cntE ie k ∧ cntE ie k ≤ k
  | 0 => by
    unfold cntE
    omega
  | k + 1 => by
    have := cntE_R (ie := ie) k
    unfold cntE
    split <;> omega
theorem cntE_mono {ie : Int → Int} {a : Nat} : ∀ d : Nat, cntE ie a ≤ cntE ie (a + d)
  | 0 => Int.le_refl _
  | d + 1 => by
    have := cntE_mono (ie := ie) (a := a) d
    show _ ≤ cntE ie (a + d) + _
    split <;> omega
theorem cntE_le {ie : Int → Int} {a b : Nat} (h : a ≤ b) : cntE ie a ≤ cntE ie b := by
  have := cntE_mono (ie := ie) (a := a) (b - a)
  rwa [show a + (b - a) = b by omega] at this
theorem cntE_congr {ie ie' : Int → Int} : ∀ k : Nat, (∀ j : Nat, j < k → ie (j : Int) = ie' (j : Int)) → cntE ie k = cntE ie' k
  | 0, _ => rfl
  | k + 1, h => by
    have e := cntE_congr k (fun j hj => h j (by omega))
    unfold cntE
    rw [e, h k (by omega)]
theorem cntE_find {ie : Int → Int} : ∀ (k : Nat) (c : Int), 0 ≤ c → c < cntE ie k → ∃ j : Nat, j < k ∧ ¬ ie (j : Int) = 0 ∧ cntE ie j = c
  | 0, c, h0, h1 => by
    unfold cntE at h1
    omega
  | k + 1, c, h0, h1 => by
    by_cases hc : c < cntE ie k
    · obtain ⟨j, a, b⟩ := cntE_find k c h0 hc
      exact ⟨j, by omega, b⟩
    · unfold cntE at h1
      by_cases hk : ie (k : Int) = 0
      · rw [if_pos hk] at h1
        omega
      · rw [if_neg hk] at h1
        exact ⟨k, by omega, hk, by omega⟩
def EchR (ie : Int → Int) (h : Nat) (ec : Int) (Ec : Int → Int) : Prop := ec = cntE ie h ∧ ∀ k : Nat, k < h → ¬ ie (k : Int) = 0 → Ec (cntE ie k) = (k : Int)
theorem ecM_eq {ie Ec : Int → Int} {h : Nat} (hE : ∀ k : Nat, k < h → ¬ ie (k : Int) = 0 → Ec (cntE ie k) = (k : Int)) : ∀ (n a : Nat), a + n = h → ∀ left : Int, 0 ≤ left → ecM ie n (a : Int) left = if cntE ie a + left < cntE ie h then Ec (cntE ie a + left) else -100009
  | 0, a, ha, left, hl => by
    rw [show a = h by omega, if_neg (by omega)]
    rfl
  | n + 1, a, ha, left, hl => by
    have hm := cntE_le (ie := ie) (show a + 1 ≤ h by omega)
    have e1 : cntE ie (a + 1) = cntE ie a + (if ie (a : Int) = 0 then 0 else 1) := rfl
    by_cases h0 : ie (a : Int) = 0
    · rw [if_pos h0] at e1
      rw [ecM_a n h0]
      have e := ecM_eq hE n (a + 1) (by omega) left hl
      rw [e1, Int.add_zero] at e
      exact e
    · rw [if_neg h0] at e1
      by_cases h2 : left = 0
      · rw [ecM_b n h0 h2, h2, Int.add_zero, if_pos (by omega), hE a (by omega) h0]
      · rw [ecM_c n h0 h2]
        have e := ecM_eq hE n (a + 1) (by omega) (left - 1) (by omega)
        rw [e1, show cntE ie a + 1 + (left - 1) = cntE ie a + left by omega] at e
        exact e
theorem echo_eq {ie Ec : Int → Int} {h : Nat} {ec i : Int} (hR : EchR ie h ec Ec) : echoF ec Ec i = if i < 0 then -100001 else ecM ie h 0 i := by
  obtain ⟨h1, h2⟩ := hR
  unfold echoF
  by_cases hi : i < 0
  · rw [if_pos hi, if_pos hi]
  · rw [if_neg hi, if_neg hi]
    have e := ecM_eq h2 h 0 (by omega) i (by omega)
    rw [show cntE ie 0 + i = i from Int.zero_add i] at e
    rw [h1]
    exact e.symm
theorem ech_0 {ie Ec : Int → Int} {h : Nat} {ec : Int} (hR : EchR ie h ec Ec) : EchR (zup ie (h : Int) 0) (h + 1) ec Ec := by
  obtain ⟨h1, h2⟩ := hR
  have hc : ∀ k : Nat, k ≤ h → cntE (zup ie (h : Int) 0) k = cntE ie k := fun k hk => cntE_congr k (fun j hj => zup_n (by omega))
  refine ⟨?_, fun k hk hn => ?_⟩
  · show _ = cntE (zup ie (h : Int) 0) h + _
    rw [zup_s, if_pos rfl, hc h (Nat.le_refl _), Int.add_zero]
    exact h1
  · by_cases hq : k = h
    · subst hq
      exact absurd zup_s hn
    · rw [zup_n (by omega)] at hn
      rw [hc k (by omega)]
      exact h2 k (by omega) hn
theorem ech_h {ie Ec : Int → Int} {h : Nat} {ec : Int} (hR : EchR ie (h + 1) ec Ec) (hz : Z01 (ie (h : Int))) (hh : h < 600) : EchR (zup ie (h : Int) 1) (h + 1) (eC ec Ec ((h : Int) + 1)) (eF ec Ec ((h : Int) + 1)) := by
  obtain ⟨h1, h2⟩ := hR
  have e1 : cntE ie (h + 1) = cntE ie h + (if ie (h : Int) = 0 then 0 else 1) := rfl
  have hb := cntE_R (ie := ie) h
  rcases hz with hz | hz
  · rw [if_pos hz, Int.add_zero] at e1
    have hnew : echoNew ec Ec ((h : Int) + 1) := by
      refine ⟨fun q => ?_, by omega⟩
      obtain ⟨j, j1, j2, j3⟩ := cntE_find (ie := ie) h (ec - 1) (by omega) (by omega)
      have := h2 j (by omega) j2
      rw [j3] at this
      omega
    have hc : ∀ k : Nat, k ≤ h → cntE (zup ie (h : Int) 1) k = cntE ie k := fun k hk => cntE_congr k (fun j hj => zup_n (by omega))
    rw [(eC_t hnew).1, (eC_t hnew).2]
    refine ⟨?_, fun k hk hn => ?_⟩
    · show _ = cntE (zup ie (h : Int) 1) h + _
      rw [zup_s, if_neg (by decide), hc h (Nat.le_refl _)]
      omega
    · rw [hc k (by omega)]
      by_cases hq : k = h
      · subst hq
        rw [← e1, ← h1, zup_s]
        omega
      · rw [zup_n (by omega)] at hn
        have := cntE_le (ie := ie) (show k + 1 ≤ h by omega)
        have e2 : cntE ie (k + 1) = cntE ie k + (if ie (k : Int) = 0 then 0 else 1) := rfl
        rw [if_neg hn] at e2
        rw [zup_n (by omega)]
        exact h2 k (by omega) hn
  · rw [if_neg (by omega)] at e1
    have e3 := h2 h (by omega) (by omega)
    have hold : ¬ echoNew ec Ec ((h : Int) + 1) := by
      rintro ⟨q, -⟩
      refine q ⟨by omega, ?_⟩
      rw [show ec - 1 = cntE ie h by omega, e3]
      omega
    rw [(eC_f hold).1, (eC_f hold).2, zup_eqv hz]
    exact ⟨h1, h2⟩
/-! ears -/
def EarR (A : Int → Int) (y : EMX) : Prop := ∀ p, 0 ≤ p → p < 12 → A (p * 4) = y.2.1 p ∧ A (p * 4 + 1) = y.2.2.1 p ∧ (y.2.1 p = 0 → A (p * 4 + 2) = -100009) ∧ (¬ y.2.1 p = 0 → A (p * 4 + 2) = y.2.2.2.1 p) ∧ A (p * 4 + 3) = y.2.2.2.2 p ∧ 0 ≤ y.2.1 p
theorem ear_0 {A : Int → Int} {ie my su fi mo : Int → Int} : EarR (ear0 A 12) (ie, clr0 my 12, clr0 su 12, fi, clr0 mo 12) := by
  intro p h0 h1
  have a0 : ear0 A 12 (p * 4) = 0 := by unfold ear0; rw [if_pos (by omega), if_neg (by omega)]
  have a1 : ear0 A 12 (p * 4 + 1) = 0 := by unfold ear0; rw [if_pos (by omega), if_neg (by omega)]
  have a2 : ear0 A 12 (p * 4 + 2) = -100009 := by unfold ear0; rw [if_pos (by omega), if_pos (by omega)]
  have a3 : ear0 A 12 (p * 4 + 3) = 0 := by unfold ear0; rw [if_pos (by omega), if_neg (by omega)]
  have c : ∀ f : Int → Int, clr0 f 12 p = 0 := fun f => if_pos ⟨h0, h1⟩
  exact ⟨a0.trans (c my).symm, a1.trans (c su).symm, fun _ => a2, fun q => absurd (c my) q, a3.trans (c mo).symm, Int.le_of_eq (c my).symm⟩
theorem ear_h {A : Int → Int} {y : EMX} {h p t e : Int} (hR : EarR A y) (hp : 0 ≤ p ∧ p < 12) : EarR (hearF A p t e) (heaM h p t e y) := by
  intro j h0 h1
  obtain ⟨q0, q1, q2, q2b, q3, q4⟩ := hR j h0 h1
  by_cases hj : j = p
  · subst hj
    have f0 : hearF A j t e (j * 4) = A (j * 4) + 1 := by unfold hearF; rw [zup_n (by omega), zup_n (by omega), zup_s]
    have f1 : hearF A j t e (j * 4 + 1) = A (j * 4 + 1) + e := by unfold hearF; rw [zup_n (by omega), zup_s]
    have f3 : hearF A j t e (j * 4 + 3) = max (A (j * 4 + 3)) e := by unfold hearF; rw [zup_s]
    have f2 : hearF A j t e (j * 4 + 2) = if A (j * 4) = 0 then t else A (j * 4 + 2) := by
      unfold hearF
      rw [zup_n (by omega), zup_n (by omega), zup_n (by omega)]
      unfold hear1
      split
      · exact zup_s
      · rfl
    have m0 : (heaM h j t e y).2.1 j = y.2.1 j + 1 := zup_s
    have m1 : (heaM h j t e y).2.2.1 j = y.2.2.1 j + e := zup_s
    have m2 : (heaM h j t e y).2.2.2.1 j = if y.2.1 j = 0 then t else y.2.2.2.1 j := zup_s
    have m3 : (heaM h j t e y).2.2.2.2 j = max (y.2.2.2.2 j) e := zup_s
    rw [f0, f1, f2, f3, m0, m1, m2, m3]
    refine ⟨by omega, by omega, fun z => by omega, fun _ => ?_, by rw [q3], by omega⟩
    by_cases hz : y.2.1 j = 0
    · rw [if_pos (q0.trans hz), if_pos hz]
    · rw [if_neg (by rw [q0]; exact hz), if_neg hz]
      exact q2b hz
  · have g : ∀ c : Int, 0 ≤ c → c < 4 → hearF A p t e (j * 4 + c) = A (j * 4 + c) := fun c c0 c1 => by
      unfold hearF
      rw [zup_n (by omega), zup_n (by omega), zup_n (by omega), hear1_n (by omega)]
    have g0 := g 0 (by decide) (by decide)
    rw [Int.add_zero] at g0
    have m0 : (heaM h p t e y).2.1 j = y.2.1 j := zup_n hj
    have m1 : (heaM h p t e y).2.2.1 j = y.2.2.1 j := zup_n hj
    have m2 : (heaM h p t e y).2.2.2.1 j = y.2.2.2.1 j := zup_n hj
    have m3 : (heaM h p t e y).2.2.2.2 j = y.2.2.2.2 j := zup_n hj
    rw [g0, g 1 (by decide) (by decide), g 2 (by decide) (by decide), g 3 (by decide) (by decide), m0, m1, m2, m3]
    exact ⟨q0, q1, q2, q2b, q3, q4⟩
theorem ear_eq {A : Int → Int} {y : EMX} (hR : EarR A y) (p w : Int) : earL A p w = heL y.2.1 y.2.2.1 y.2.2.2.1 y.2.2.2.2 p w := by
  unfold earL heL
  by_cases h : 0 ≤ p ∧ p < 12 ∧ 0 ≤ w ∧ w < 4
  · rw [if_pos h, if_pos h]
    obtain ⟨q0, q1, q2, q2b, q3, q4⟩ := hR p h.1 h.2.1
    unfold heM
    rcases (show w = 0 ∨ w = 1 ∨ w = 2 ∨ w = 3 by omega) with rfl | rfl | rfl | rfl
    · rw [if_neg (by decide), if_pos rfl, Int.add_zero]; exact q0
    · rw [if_neg (by decide), if_neg (by decide), if_pos rfl]; exact q1
    · rw [if_pos rfl]
      by_cases hz : y.2.1 p = 0
      · rw [if_pos hz]; exact q2 hz
      · rw [if_neg hz]; exact q2b hz
    · rw [if_neg (by decide), if_neg (by decide), if_neg (by decide)]; exact q3
  · rw [if_neg h, if_neg h]
theorem edS_congr {N N' en : Int → Int} {k : Int} : ∀ h : Nat, (∀ j : Int, j < (h : Int) * 5 → N j = N' j) → edS N en k h = edS N' en k h
  | 0, _ => rfl
  | h + 1, q => by
    have e := edS_congr (en := en) (k := k) h (fun j hj => q j (by omega))
    rw [edS, edS, e, q ((h : Int) * 5) (by omega), q ((h : Int) * 5 + 1) (by omega)]
theorem edS_R {N en : Int → Int} {k : Int} (hk : 0 ≤ k) : ∀ h : Nat, 0 ≤ (edS N en k h).1 ∧ (edS N en k h).1 ≤ k
  | 0 => ⟨Int.le_refl _, hk⟩
  | h + 1 => by
    have := edS_R (N := N) (en := en) hk h
    rw [edS]
    split
    · dsimp only
      omega
    · exact this
theorem edS_k {N en : Int → Int} {k : Int} (hk : 0 ≤ k ∧ k ≤ 200) : ∀ h : Nat, (edS N en k h).1 = min k (edS N en 200 h).1 ∧ ∀ j, 0 ≤ j → j ≤ (edS N en k h).1 → (edS N en k h).2 j = (edS N en 200 h).2 j
  | 0 => ⟨by show (0 : Int) = min k 0; omega, fun j _ _ => rfl⟩
  | h + 1 => by
    obtain ⟨e1, e2⟩ := edS_k (N := N) (en := en) hk h
    have r1 := edS_R (N := N) (en := en) (k := k) hk.1 h
    have r2 := edS_R (N := N) (en := en) (k := 200) (by decide) h
    rw [edS, edS]
    by_cases hz : N ((h : Int) * 5) = 0
    · by_cases h2 : (edS N en 200 h).1 < 200
      · rw [if_pos (show (edS N en 200 h).1 < 200 ∧ N ((h : Int) * 5) = 0 from ⟨h2, hz⟩)]
        by_cases h1 : (edS N en k h).1 < k
        · rw [if_pos (show (edS N en k h).1 < k ∧ N ((h : Int) * 5) = 0 from ⟨h1, hz⟩)]
          have e3 : (edS N en k h).1 = (edS N en 200 h).1 := by omega
          refine ⟨by dsimp only; omega, fun j j0 j1 => ?_⟩
          dsimp only at j1 ⊢
          rw [e3]
          by_cases hj : j = (edS N en 200 h).1 + 1
          · rw [hj, zup_s, zup_s]
          · rw [zup_n hj, zup_n hj]
            exact e2 j j0 (by omega)
        · rw [if_neg (fun q => h1 q.1)]
          refine ⟨by dsimp only; omega, fun j j0 j1 => ?_⟩
          dsimp only
          rw [zup_n (by omega)]
          exact e2 j j0 j1
      · by_cases h1 : (edS N en k h).1 < k
        · omega
        · rw [if_neg (show ¬ ((edS N en k h).1 < k ∧ N ((h : Int) * 5) = 0) from fun q => h1 q.1), if_neg (show ¬ ((edS N en 200 h).1 < 200 ∧ N ((h : Int) * 5) = 0) from fun q => h2 q.1)]
          exact ⟨e1, e2⟩
    · rw [if_neg (show ¬ ((edS N en k h).1 < k ∧ N ((h : Int) * 5) = 0) from fun q => hz q.2), if_neg (show ¬ ((edS N en 200 h).1 < 200 ∧ N ((h : Int) * 5) = 0) from fun q => hz q.2)]
      exact ⟨e1, e2⟩
def PathR (N : Int → Int) (h : Nat) (be : Int) (Cn : Int → Int) (pc : Int) : Prop := ∀ en : Int → Int, pc = (edS N (zup en 0 be) 200 h).1 + 1 ∧ ∀ j, 0 ≤ j → j < pc → Cn j = (edS N (zup en 0 be) 200 h).2 j
theorem path_0 {N Cn : Int → Int} {p : Int} : PathR N 0 p (zup Cn 0 p) 1 := fun en => ⟨rfl, fun j h0 h1 => by
  have : j = 0 := by omega
  subst this
  show zup Cn 0 p 0 = zup en 0 p 0
  rw [zup_s, zup_s]⟩
theorem path_s {N Cn : Int → Int} {h : Nat} {be pc r p t e s : Int} (hR : PathR N h be Cn pc) : PathR (noteF N (h : Int) r p t e s) (h + 1) be (pthF r Cn pc p) (pthC r pc) := by
  intro en
  obtain ⟨e1, e2⟩ := hR en
  have r2 := edS_R (N := N) (en := zup en 0 be) (k := 200) (by decide) h
  rw [edS, edS_congr (N' := N) h (fun j hj => note_o (by omega)), note_0, note_1]
  unfold pthC pthF goC goF
  by_cases hr : r = 0
  · rw [if_pos hr, if_pos hr]
    by_cases hc : pc < 201
    · rw [if_pos hc, if_pos hc, if_pos ⟨by omega, hr⟩]
      refine ⟨by dsimp only; omega, fun j j0 j1 => ?_⟩
      dsimp only
      by_cases hj : j = pc
      · subst hj
        rw [zup_s, e1, zup_s]
      · rw [zup_n hj, zup_n (by omega)]
        exact e2 j j0 (by omega)
    · rw [if_neg hc, if_neg hc, if_neg (fun q => by omega)]
      exact ⟨e1, e2⟩
  · rw [if_neg hr, if_neg hr, if_neg (fun q => hr q.2)]
    exact ⟨e1, e2⟩
theorem sumR_congr {g g' : Int → Int} {a : Int} : ∀ k : Nat, (∀ i, a ≤ i → i < a + k → g i = g' i) → sumR g a k = sumR g' a k
  | 0, _ => rfl
  | k + 1, h => by
    have e := sumR_congr (g := g) (g' := g') (a := a) k (fun i h0 h1 => h i h0 (by omega))
    rw [sumR, sumR, e, h (a + (k : Int)) (by omega) (by omega)]
theorem pairs_congr {C C' : Int → Int} {e : Int} (h : ∀ j, 0 ≤ j → j < e → C j = C' j) : pairsF C e = pairsF C' e := by
  unfold pairsF
  apply sumR_congr
  intro i i0 i1
  unfold pairJ
  apply sumR_congr
  intro j j0 j1
  unfold pairI
  rw [h (i - 1) (by omega) (by omega), h i (by omega) (by omega), h (j - 1) (by omega) (by omega), h j (by omega) (by omega)]
theorem path_cross {N Cn en : Int → Int} {h : Nat} {be pc k : Int} (hR : PathR N h be Cn pc) (hk : 0 ≤ k ∧ k ≤ 200) : pairsF Cn (min (k + 1) pc) = pairsF (edS N (zup en 0 be) k h).2 ((edS N (zup en 0 be) k h).1 + 1) := by
  obtain ⟨e1, e2⟩ := hR en
  obtain ⟨k1, k2⟩ := edS_k (N := N) (en := zup en 0 be) hk h
  rw [show min (k + 1) pc = (edS N (zup en 0 be) k h).1 + 1 by omega]
  apply pairs_congr
  intro j j0 j1
  rw [e2 j j0 (by omega), k2 j j0 (by omega)]
