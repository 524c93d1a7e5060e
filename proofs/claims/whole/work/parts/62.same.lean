/-! a shot: both sides go together -/
section CONGR
variable {thr lo h r n : Int} {f f' : Int → Int}
theorem partsX_congr (hf : ∀ j, 0 ≤ j → j < n * 4 → f j = f' j) : ∀ (k : Nat) (x : SX), (k : Int) ≤ n → partsX thr h r f k x = partsX thr h r f' k x
  | 0, _, _ => rfl
  | k + 1, x, hk => by
    have e := partsX_congr hf k x (by omega)
    rw [partsX, partsX, e]
    unfold stepX covP
    rw [hf ((k : Int) * 4 + 1) (by omega) (by omega), hf ((k : Int) * 4 + 2) (by omega) (by omega), hf ((k : Int) * 4 + 0) (by omega) (by omega), hf ((k : Int) * 4 + 3) (by omega) (by omega)]
theorem goX_congr (hn : 0 ≤ n) (hf : ∀ j, 0 ≤ j → j < n * 4 → f j = f' j) (y : FX) : goX thr lo n f r y = goX thr lo n f' r y := by
  unfold goX hitX
  rw [partsX_congr hf n.toNat _ (by omega)]
theorem itX_congr (hn : 0 ≤ n) (hf : ∀ j, 0 ≤ j → j < n * 4 → f j = f' j) : ∀ (k : Nat) (y : FX), itX thr lo n f k y = itX thr lo n f' k y
  | 0, _ => rfl
  | k + 1, y => by
    have e := itX_congr hn hf k y
    rw [itX, itX, e, goX_congr hn hf]
end CONGR
theorem erl_live (T U : Int → Int) : ∀ k : Nat, erlF T U k = -1 ∨ ¬ U (erlF T U k) = 0
  | 0 => Or.inl rfl
  | k + 1 => by
    unfold erlF
    split
    · rename_i q
      exact Or.inr q.1
    · exact erl_live T U k
theorem erl_congr {T T' U : Int → Int} : ∀ k : Nat, (∀ j : Int, 0 ≤ j → j < k → ¬ U j = 0 → T j = T' j) → erlF T U k = erlF T' U k
  | 0, _ => rfl
  | k + 1, h => by
    have e := erl_congr k (fun j a b c => h j a (by omega) c)
    have hl := erl_live T' U k
    have hR := erl_R T' U k
    rw [erlF, erlF, e]
    by_cases hU : U (k : Int) = 0
    · rw [if_neg (fun q => q.1 hU), if_neg (fun q => q.1 hU)]
    · have e1 := h (k : Int) (by omega) (by omega) hU
      rcases hl with q | q
      · rw [if_pos ⟨hU, Or.inl q⟩, if_pos ⟨hU, Or.inl q⟩]
      · by_cases hq : erlF T' U k = -1
        · rw [if_pos ⟨hU, Or.inl hq⟩, if_pos ⟨hU, Or.inl hq⟩]
        · have e2 := h (erlF T' U k) (by omega) (by omega) q
          rw [e1, e2]
/-- rays in the midst of a hit of ray r, h hits before it -/
def PR (h : Nat) (r : Int) (x : SX) (y : SMX) : Prop :=
  (x.1.1 = y.1.1 ∧ x.1.2.1 = y.1.2.1 ∧ x.1.2.2.1 = y.1.2.2.1 ∧ x.1.2.2.2.1 = y.1.2.2.2.1 ∧ x.1.2.2.2.2.2 = y.1.2.2.2.2.2) ∧ (x.1.1 ≤ 100 ∧ 0 ≤ r ∧ r < x.1.1) ∧
  (∀ j, 0 ≤ j → j < x.1.1 → j ≠ r → ¬ x.1.2.2.2.2.2 j = 0 → x.1.2.2.2.2.1 j = y.1.2.2.2.2.1 j + chordF (x.1.2.2.1 j)) ∧ x.1.2.2.2.2.1 r = y.1.2.2.2.2.1 r ∧ (∀ j, 0 ≤ j → j < x.1.1 → Z01 (x.1.2.2.2.2.2 j)) ∧
  EarR x.2.1 y.2 ∧ EchR y.2.1 (h + 1) x.2.2.1 x.2.2.2 ∧ Z01 (y.2.1 (h : Int))
theorem act_PR {h : Nat} {thr kd k p r : Int} {x : SX} {y : SMX} (hR : PR h r x y) (hh : h < 600) (hd : 0 ≤ kd ∧ kd ≤ 4) (hp : 0 ≤ p ∧ p < 12) (hU : ¬ x.1.2.2.2.2.2 r = 0) : PR h r (actX thr ((h : Int) + 1) kd k p r x) (actM thr ((h : Int) + 1) kd k p r y) := by
  obtain ⟨⟨m, P, S, E, T, U⟩, A, ec, Ec⟩ := x
  obtain ⟨⟨m', P', S', E', T', U'⟩, w⟩ := y
  obtain ⟨⟨e1, e2, e3, e4, e5⟩, ⟨hm, hr0, hr1⟩, hT, hTr, hZ, hE, hC, hz⟩ := hR
  dsimp only at e1 e2 e3 e4 e5 hm hr1 hT hTr hZ hE hC hz hU
  subst e1; subst e2; subst e3; subst e4; subst e5
  have hU1 : U r = 1 := (hZ r hr0 hr1).resolve_left hU
  rcases (show kd = 0 ∨ kd = 1 ∨ kd = 2 ∨ kd = 3 ∨ kd = 4 by omega) with e | e | e | e | e
  · rw [act_0 e, actM_0 e]
    exact ⟨⟨rfl, rfl, rfl, rfl, rfl⟩, ⟨hm, hr0, hr1⟩, hT, hTr, hZ, hE, hC, hz⟩
  · rw [act_1 e, actM_1 e]
    refine ⟨⟨rfl, rfl, rfl, rfl, rfl⟩, ⟨hm, hr0, hr1⟩, fun j a b c d => ?_, hTr, hZ, hE, hC, hz⟩
    dsimp only at d ⊢
    rw [zup_n c]
    exact hT j a b c d
  · rw [act_2 e, actM_2 e]
    refine ⟨⟨rfl, rfl, rfl, rfl, by dsimp only; rw [hU1]⟩, ⟨hm, hr0, hr1⟩, fun j a b c d => ?_, hTr, fun j a b => ?_, hE, hC, hz⟩
    · dsimp only at d ⊢
      rw [zup_n c] at d ⊢
      exact hT j a b c d
    · dsimp only
      by_cases hj : j = r
      · subst hj
        rw [zup_s]
        split
        · exact Or.inl rfl
        · exact hZ j a b
      · rw [zup_n hj]
        exact hZ j a b
  · rw [act_3 e, actM_3 e]
    by_cases hc : ¬ tiltF (S r) k = 0 ∧ thr ≤ E r / 2
    · rw [sp_t hc, spM_t hc]
      unfold bgM bgZ
      by_cases hm1 : m < 100
      · simp only [if_pos hm1]
        refine ⟨⟨rfl, rfl, rfl, rfl, rfl⟩, ⟨by dsimp only; omega, hr0, by dsimp only; omega⟩, fun j a b c d => ?_, ?_, fun j a b => ?_, hE, hC, hz⟩
        · dsimp only at b d ⊢
          by_cases hj : j = m
          · subst hj
            rw [zup_s, zup_s, zup_s, hTr]
          · rw [zup_n hj] at d ⊢
            rw [zup_n hj, zup_n hj]
            exact hT j a (by omega) c d
        · dsimp only
          rw [zup_n (by omega), zup_n (by omega)]
          exact hTr
        · dsimp only at b ⊢
          by_cases hj : j = m
          · subst hj
            rw [zup_s]
            exact Or.inr rfl
          · rw [zup_n hj]
            exact hZ j a (by omega)
      · simp only [if_neg hm1]
        exact ⟨⟨rfl, rfl, rfl, rfl, rfl⟩, ⟨hm, hr0, hr1⟩, hT, hTr, hZ, hE, hC, hz⟩
    · rw [sp_f hc, spM_f hc]
      exact ⟨⟨rfl, rfl, rfl, rfl, rfl⟩, ⟨hm, hr0, hr1⟩, hT, hTr, hZ, hE, hC, hz⟩
  · rw [act_4 e, actM_4 e]
    have hx : ((h : Int) + 1) - 1 = (h : Int) := by omega
    have hq : (heaM ((h : Int) + 1) p (T' r) (E r) w).1 = zup w.1 (h : Int) 1 := by
      show zup w.1 (((h : Int) + 1) - 1) 1 = _
      rw [hx]
    refine ⟨⟨rfl, rfl, rfl, rfl, rfl⟩, ⟨hm, hr0, hr1⟩, hT, hTr, hZ, ?_, ?_, ?_⟩
    · dsimp only
      rw [hTr]
      exact ear_h hE hp
    · dsimp only
      rw [hq]
      exact ech_h hC hz hh
    · dsimp only
      rw [hq, zup_s]
      exact Or.inr rfl
theorem parts_PR {h : Nat} {thr n r : Int} {f : Int → Int} (hh : h < 600) (hn : n ≤ 12) (hp : ∀ j, 0 ≤ j → j < n → PartOK f j) : ∀ (k : Nat) (x : SX) (y : SMX), (k : Int) ≤ n → PR h r x y → PR h r (partsX thr ((h : Int) + 1) r f k x) (partsM thr ((h : Int) + 1) r f k y)
  | 0, _, _, _, hR => hR
  | k + 1, x, y, hk, hR => by
    have e := parts_PR (thr := thr) hh hn hp k x y (by omega) hR
    rw [partsX, partsM]
    generalize partsX thr ((h : Int) + 1) r f k x = X at e ⊢
    generalize partsM thr ((h : Int) + 1) r f k y = Y at e ⊢
    have e5 := e.1.2.2.2.2
    have e2 := e.1.2.1
    unfold stepX stepM
    by_cases hu : X.1.2.2.2.2.2 r = 0
    · rw [if_pos hu, if_pos (by rw [← e5]; exact hu)]
      exact e
    · rw [if_neg hu, if_neg (show ¬ Y.1.2.2.2.2.2 r = 0 by rw [← e5]; exact hu)]
      by_cases hc : covP f (k : Int) (X.1.2.1 r)
      · rw [if_pos hc, if_pos (show covP f (k : Int) (Y.1.2.1 r) by rw [← e2]; exact hc)]
        have q := hp (k : Int) (by omega) (by omega)
        exact act_PR e hh q.1 (by omega) hu
      · rw [if_neg hc, if_neg (show ¬ covP f (k : Int) (Y.1.2.1 r) by rw [← e2]; exact hc)]
        exact e
/-- rays between the hits -/
def QR (h : Nat) (x : SX) (y : SMX) : Prop :=
  (x.1.1 = y.1.1 ∧ x.1.2.1 = y.1.2.1 ∧ x.1.2.2.1 = y.1.2.2.1 ∧ x.1.2.2.2.1 = y.1.2.2.2.1 ∧ x.1.2.2.2.2.2 = y.1.2.2.2.2.2) ∧ (0 ≤ x.1.1 ∧ x.1.1 ≤ 100) ∧
  (∀ j, 0 ≤ j → j < x.1.1 → ¬ x.1.2.2.2.2.2 j = 0 → x.1.2.2.2.2.1 j = y.1.2.2.2.2.1 j + chordF (x.1.2.2.1 j)) ∧ (∀ j, 0 ≤ j → j < x.1.1 → Z01 (x.1.2.2.2.2.2 j)) ∧
  EarR x.2.1 y.2 ∧ EchR y.2.1 h x.2.2.1 x.2.2.2
theorem hit_PR {h : Nat} {lo r : Int} {x : SX} {y : SMX} (hQ : QR h x y) (hr : 0 ≤ r ∧ r < x.1.1) (hU : ¬ x.1.2.2.2.2.2 r = 0) : PR h r (hit0 lo r x.1, x.2) (hitM0 lo r y.1, (zup y.2.1 (h : Int) 0, y.2.2)) := by
  obtain ⟨⟨m, P, S, E, T, U⟩, A, ec, Ec⟩ := x
  obtain ⟨⟨m', P', S', E', T', U'⟩, ie, w⟩ := y
  obtain ⟨⟨e1, e2, e3, e4, e5⟩, ⟨hm0, hm⟩, hT, hZ, hE, hC⟩ := hQ
  dsimp only at e1 e2 e3 e4 e5 hm hT hZ hE hC hU hr
  subst e1; subst e2; subst e3; subst e4; subst e5
  unfold hit0 hitM0 newP
  dsimp only
  refine ⟨⟨rfl, rfl, rfl, rfl, rfl⟩, ⟨hm, hr⟩, fun j a b c d => ?_, ?_, hZ, hE, ech_0 hC, ?_⟩
  · dsimp only
    rw [zup_n c]
    exact hT j a b d
  · dsimp only
    rw [zup_s]
    exact hT r hr.1 hr.2 hU
  · dsimp only
    rw [zup_s]
    exact Or.inl rfl
theorem end_QR {h : Nat} {thr r : Int} {x : SX} {y : SMX} (hR : PR h r x y) : QR (h + 1) (endR thr r x.1, x.2) (endM thr r y.1, y.2) := by
  obtain ⟨⟨m, P, S, E, T, U⟩, A, ec, Ec⟩ := x
  obtain ⟨⟨m', P', S', E', T', U'⟩, w⟩ := y
  obtain ⟨⟨e1, e2, e3, e4, e5⟩, ⟨hm, hr0, hr1⟩, hT, hTr, hZ, hE, hC, hz⟩ := hR
  dsimp only at e1 e2 e3 e4 e5 hm hr1 hT hTr hZ hE hC hz
  subst e1; subst e2; subst e3; subst e4; subst e5
  have hz2 : ∀ j, 0 ≤ j → j < m → Z01 ((if E r < thr then zup U r 0 else U) j) := fun j a b => by
    split
    · unfold zup
      split
      · exact Or.inl rfl
      · exact hZ j a b
    · exact hZ j a b
  unfold endR endM
  dsimp only
  refine ⟨⟨rfl, rfl, rfl, rfl, rfl⟩, ⟨by dsimp only; omega, hm⟩, fun j a b d => ?_, hz2, hE, hC⟩
  dsimp only at b d ⊢
  by_cases hj : j = r
  · subst hj
    by_cases hq : E j < thr
    · rw [if_pos hq, zup_s] at d
      exact absurd rfl d
    · rw [if_neg hq] at d
      rw [if_neg (by omega), zup_s, hTr]
  · have d2 : ¬ U j = 0 := by
      by_cases hq : E r < thr
      · rw [if_pos hq, zup_n hj] at d
        exact d
      · rw [if_neg hq] at d
        exact d
    have e := hT j a b hj d2
    split
    · exact e
    · rw [zup_n hj]
      exact e
theorem sumE_congr {N N' : Int → Int} : ∀ h : Nat, (∀ j : Int, j < (h : Int) * 5 → N j = N' j) → sumE N h = sumE N' h
  | 0, _ => rfl
  | h + 1, q => by
    have e := sumE_congr h (fun j hj => q j (by omega))
    rw [sumE, sumE, e, q ((h : Int) * 5 + 3) (by omega)]
/-- the whole of a shot -/
def FR (k : Nat) (be : Int) (x : FX) (y : FMX) : Prop := ∃ h : Nat, h ≤ k ∧ x.2.1.1 = (h : Int) ∧ y.2.1 = (h : Int) ∧ QR h x.1 y.1 ∧ x.2.1.2.2 = y.2.2 ∧ x.2.1.2.1 = sumE y.2.2 h ∧ MarkR y.2.2 (h : Int) x.2.2.1.2 x.2.2.1.1 ∧ PathR y.2.2 h be x.2.2.2.2 x.2.2.2.1 ∧
  (∀ j : Int, 0 ≤ j → j < (h : Int) → (0 ≤ y.2.2 (j * 5 + 1) ∧ y.2.2 (j * 5 + 1) < 27720) ∧ 0 ≤ y.2.2 (j * 5) ∧ y.2.2 (j * 5) < 100) ∧ (0 ≤ x.2.2.2.1 ∧ x.2.2.2.1 ≤ 201) ∧ ∀ j, 0 ≤ j → j < x.2.2.2.1 → 0 ≤ x.2.2.2.2 j ∧ x.2.2.2.2 j < 27720
theorem go_FR {k : Nat} {thr lo n be r : Int} {f : Int → Int} {x : FX} {y : FMX} (hW : WallOK n lo thr f) (hk : k < 600) (hF : FR k be x y) (hr : 0 ≤ r ∧ r < x.1.1.1) (hU : ¬ x.1.1.2.2.2.2.2 r = 0) : FR (k + 1) be (goX thr lo n f r x) (goM thr lo n f r y) := by
  obtain ⟨h, hh, q1, q2, q3, q4, q5, q6, q7, q8, q9, q10⟩ := hF
  obtain ⟨w1, w2, w3, w4⟩ := hW
  have hP := hit_PR (lo := lo) q3 hr hU
  have hX := parts_PR (thr := thr) (by omega) w1.2 w4 n.toNat _ _ (by omega) hP
  have hE := end_QR (thr := thr) hX
  obtain ⟨⟨⟨m, P, S, E, T, U⟩, A, ec, Ec⟩, ⟨hx, es, Nn⟩, ⟨c, wd⟩, pc, Cn⟩ := x
  obtain ⟨⟨⟨m', P', S', E', T', U'⟩, ie, w⟩, hy, N⟩ := y
  dsimp only at q1 q2 q4 q5 q6 q7 q8 q9 q10 hr hU
  obtain ⟨⟨e1, e2, e3, e4, e5⟩, ⟨hm0, hm⟩, hT, hZ, -, -⟩ := q3
  dsimp only at e1 e2 e3 e4 e5 hm hT
  subst e1; subst e2; subst e3; subst e4; subst e5; subst q1; subst q2; subst q4
  have hTr := hT r hr.1 hr.2 hU
  have hp : 0 ≤ newP (m, P, S, E, T, U) r ∧ newP (m, P, S, E, T, U) r < 27720 := by unfold newP; dsimp only; omega
  have hn2 : newP (m, P, S, E, T', U) r = newP (m, P, S, E, T, U) r := rfl
  unfold goX goM hitX hiM
  dsimp only at hE ⊢
  rw [hn2, ← hTr]
  refine ⟨h + 1, by omega, rfl, rfl, hE, rfl, ?_, ?_, path_s q7, fun j a b => ?_, ?_, ?_⟩
  · dsimp only
    rw [sumE, note_3, sumE_congr (N' := Nn) h (fun j hj => note_o hj), q5]
  · exact mark_s q6 (by omega) hp
  · dsimp only
    by_cases hj : j = (h : Int)
    · subst hj
      rw [note_0, note_1]
      exact ⟨hp, by omega, by omega⟩
    · rw [note_o (by omega), note_o (by omega)]
      exact q8 j a (by omega)
  · dsimp only
    unfold pthC goC
    split
    · split <;> omega
    · exact q9
  · dsimp only
    unfold pthC pthF goC goF
    split
    · split
      · intro j a b
        by_cases hj : j = pc
        · subst hj
          rw [zup_s]
          exact hp
        · rw [zup_n hj]
          exact q10 j a (by omega)
      · exact q10
    · exact q10
theorem nx_FR {k : Nat} {be : Int} {x : FX} {y : FMX} (hF : FR k be x y) : nxtX x = nxM y := by
  obtain ⟨h, hh, q1, q2, q3, -⟩ := hF
  obtain ⟨⟨e1, e2, e3, e4, e5⟩, ⟨hm0, hm⟩, hT, -⟩ := q3
  unfold nxtX nxM
  rw [← e1, ← e5, ← e3]
  exact erl_congr _ (fun j a b c => hT j a (by omega) c)
theorem it_FR {thr lo n be : Int} {f : Int → Int} {x : FX} {y : FMX} (hW : WallOK n lo thr f) (h0 : FR 0 be x y) : ∀ k : Nat, k ≤ 600 → FR k be (itX thr lo n f k x) (itM thr lo n f k y)
  | 0, _ => h0
  | k + 1, hk => by
    have e := it_FR hW h0 k (by omega)
    have hn := nx_FR e
    rw [itX, itM]
    by_cases hq : nxtX (itX thr lo n f k x) = -1
    · rw [if_pos hq, if_pos (by rw [← hn]; exact hq)]
      obtain ⟨h, hh, r⟩ := e
      exact ⟨h, by omega, r⟩
    · rw [if_neg hq, if_neg (by rw [← hn]; exact hq), ← hn]
      have hR := erl_R (itX thr lo n f k x).1.1.2.2.2.2.1 (itX thr lo n f k x).1.1.2.2.2.2.2 (itX thr lo n f k x).1.1.1.toNat
      have hl := erl_live (itX thr lo n f k x).1.1.2.2.2.2.1 (itX thr lo n f k x).1.1.2.2.2.2.2 (itX thr lo n f k x).1.1.1.toNat
      have hq2 : ¬ erlF (itX thr lo n f k x).1.1.2.2.2.2.1 (itX thr lo n f k x).1.1.2.2.2.2.2 (itX thr lo n f k x).1.1.1.toNat = -1 := hq
      exact go_FR hW (by omega) e (show 0 ≤ erlF _ _ _ ∧ erlF _ _ _ < _ by omega) (hl.resolve_left hq)
theorem it_FM {thr lo n : Int} {f : Int → Int} {y : FMX} (hW : WallOK n lo thr f) (h0 : FM 0 y) : ∀ k : Nat, ∃ h : Nat, h ≤ k ∧ FM (h : Int) (itM thr lo n f k y)
  | 0 => ⟨0, Nat.le_refl _, h0⟩
  | k + 1 => by
    obtain ⟨h, hh, e⟩ := it_FM hW h0 k
    rw [itM]
    by_cases hq : nxM (itM thr lo n f k y) = -1
    · rw [if_pos hq]
      exact ⟨h, by omega, e⟩
    · rw [if_neg hq]
      have hR := erl_R (tcF (itM thr lo n f k y).1.1.2.2.2.2.1 (itM thr lo n f k y).1.1.2.2.1) (itM thr lo n f k y).1.1.2.2.2.2.2 (itM thr lo n f k y).1.1.1.toNat
      have hq2 : ¬ erlF (tcF (itM thr lo n f k y).1.1.2.2.2.2.1 (itM thr lo n f k y).1.1.2.2.1) (itM thr lo n f k y).1.1.2.2.2.2.2 (itM thr lo n f k y).1.1.1.toNat = -1 := hq
      exact ⟨h + 1, by omega, goM_I hW e (by omega) (show 0 ≤ erlF _ _ _ ∧ erlF _ _ _ < _ by omega)⟩
theorem ini_FR {p s e : Int} {m m2 : Int} {P S E T U T2 A ec2 Ec Nn wd Cn ie my su fi mo : Int → Int} {ec nh hy es cm pc : Int} (hp : 0 ≤ p ∧ p < 27720) (hw : ∀ i, R64 (wd i)) :
    FR 0 p (ini0 p s e (((m, P, S, E, T, U), A, ec, Ec), (nh, es, Nn), (cm, wd), pc, Cn)) (iniM p s e (((m2, P, S, E, T2, U), (ie, my, su, fi, mo)), hy, Nn)) := by
  refine ⟨0, Nat.le_refl _, rfl, rfl, ⟨⟨rfl, rfl, rfl, rfl, rfl⟩, ⟨show (0 : Int) ≤ 1 by decide, show (1 : Int) ≤ 100 by decide⟩, fun j a b d => ?_, fun j a b => ?_, ear_0, rfl, fun k hk => by omega⟩, rfl, rfl, mark_0 hw, path_0, fun j a b => by omega, ⟨show (0 : Int) ≤ 1 by decide, show (1 : Int) ≤ 201 by decide⟩, fun j a b => ?_⟩
  · have hj : j = 0 := by
      have : j < 1 := b
      omega
    subst hj
    show zup T 0 (chordF s) 0 = zup T2 0 0 0 + chordF (zup S 0 s 0)
    rw [zup_s, zup_s, zup_s]
    omega
  · have hj : j = 0 := by
      have : j < 1 := b
      omega
    subst hj
    show Z01 (zup U 0 1 0)
    rw [zup_s]
    exact Or.inr rfl
  · have hj : j = 0 := by
      have : j < 1 := b
      omega
    subst hj
    show 0 ≤ zup Cn 0 p 0 ∧ zup Cn 0 p 0 < 27720
    rw [zup_s]
    exact hp
