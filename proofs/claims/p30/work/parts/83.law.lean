/-! the law: its end, its three shots -/
theorem cs_ok {c1 c2 : Nat} (h1 : c1 ≤ 600000) (h2 : c2 ≤ 7302250) : ((c1, c2) : Nat × Nat).1 ≤ room_1.cells ∧ ((c1, c2) : Nat × Nat).2 ≤ room_1.slots := ⟨h1, h2⟩
def ShB (nh m cm ec : Int) (wd : Int → Int) : Prop := (0 ≤ nh ∧ nh ≤ 600) ∧ (0 ≤ m ∧ m ≤ 100) ∧ (0 ≤ cm ∧ cm ≤ 27720) ∧ (0 ≤ ec ∧ ec ≤ 600) ∧ ∀ i, R64 (wd i)
theorem FI_ShB {y : FX} (h : FI 600 y) : ShB y.2.1.1 y.1.1.1 y.2.2.1.1 y.1.2.2.1 y.2.2.1.2 := by
  obtain ⟨i1, i2, i3, i4, i5, -⟩ := h
  exact ⟨i3, ⟨i1.1, i1.2.1⟩, ⟨i4.1, by omega⟩, i2.2.1, i5⟩
/-- a wall that is in order -/
def WallR (n lo z c ln : Int) (f ch : Int → Int) : Prop := WallOK n lo z f ∧ (0 ≤ c ∧ c ≤ 5) ∧ ChOK ch ln
theorem WallR_f {n lo z c ln : Int} {f ch : Int → Int} (h : WallR n lo z c ln f ch) : ∀ j, 0 ≤ j → j < n * 4 → R32 (f j) := fun j a b => by
  obtain ⟨q0, q1, q2, q3, q4⟩ := h.1.2.2.2 (j / 4) (by omega) (by omega)
  have l1 := least_R (f (j / 4 * 4 + 0))
  have l2 := most_R (f (j / 4 * 4 + 0))
  rcases (show j = j / 4 * 4 + 0 ∨ j = j / 4 * 4 + 1 ∨ j = j / 4 * 4 + 2 ∨ j = j / 4 * 4 + 3 by omega) with e | e | e | e
  · rw [e]; omega
  · rw [e]; omega
  · rw [e]; omega
  · rw [e]; omega
/-- what the three looks at a shot want -/
theorem shot_all {n lo z pl sp en : Int} {f : Int → Int} {y : FX} (hW : WallOK n lo z f) (hp : 0 ≤ pl ∧ pl < 27720) (hs : isStepP sp) (he : 1 ≤ en ∧ en ≤ 1000000) (hw : ∀ i, R64 (y.2.2.1.2 i)) :
    FI 600 (itX z lo n f 600 (ini0 pl sp en y)) ∧ GI n en pl sp f (itX z lo n f 600 (ini0 pl sp en y)) ∧ 1 ≤ (itX z lo n f 600 (ini0 pl sp en y)).2.1.1 ∧ ∀ y2 : FX, SimF (itX z lo n f 600 (ini0 pl sp en y)) (itX z lo n f 600 (ini0 pl sp en y2)) := by
  have hI := ini_I (y := y) hp hs he hw
  have hG := it_GI hW hs hI (ini_GI (n := n) (f := f) (p := pl) hs he.1)
  have e := hG 600 (Nat.le_refl _)
  have e2 : 1 ≤ (itX z lo n f (599 + 1) (ini0 pl sp en y)).2.1.1 := it_h 599
  rw [show 599 + 1 = 600 from rfl] at e2
  exact ⟨e.1, e.2, e2, fun y2 => it_sim hW.1 (ini_sim _ _) (fun k hk => by have := (hG k hk).2.1; omega) 600 (Nat.le_refl _)⟩
theorem GI_t0 {n en pl sp : Int} {f : Int → Int} {y : FX} (h : GI n en pl sp f y) (hh : 1 ≤ y.2.1.1) : y.2.1.2.2 (0 * 5 + 2) = chordF sp := by
  obtain ⟨-, -, -, -, -, -, q7, q8⟩ := h.2.1 0 (Int.le_refl _) (by omega)
  obtain ⟨a, b, -⟩ := q8 rfl
  have e := (q7 a).1
  rw [b] at e
  rw [e]
  show (0 : Int) + _ = _
  omega

set_option maxHeartbeats 8000000 in
set_option maxRecDepth 100000 in
theorem law_C {l : Launch} {G : GT} {nm : String} {K : KT} (h : Good l G RL nm cL_law 9 room_1 K) {bS Ln : Nat} {sc : Int → Int} (hSc : ScrK bS Ln sc K) (hsc : ∀ j, R32 (sc j)) (hLn : (Ln : Int) ≤ 260) (hEnd : ∀ cs : Nat × Nat, cs.1 ≤ 600000 → cs.2 ≤ 7302250 → ∀ (lv : List (Option Value)) (ws : va_W), V K cs 553 lv [.int (iZ 1)] ws) {x w hi tx sh pw aw sa sg fd fa rr lo mk ea pt lb lc eb mb pb : Nat} {ra : Int → Nat} {wa pa aa : Nat → Nat} {N L T : Nat → Int} {F : Nat → Int → Int} (c n lo2 z ln a b o fc m nh ec es cm pc : Int) (f ch g P S E T2 U Nn Ec A wd Cn : Int → Int) {c1 c2 : Nat} (hcs : c1 ≤ 1000 ∧ c2 ≤ 100000) (hW : WallR n lo2 z c ln f ch) (hS : ShB nh m cm ec wd) : V K (c1, c2) 465 [some (.ref bS), some (.ref x), none, none, none, none, none, none, none] [] ((x, .inr (10, [.ref w, .ref hi, .ref tx, .ref sh])) :: (w, .inr (9, [.ref pw, .int (iZ lo2), .int (iZ z)])) :: (pw, .inr (3, [.ref aw, .int (iZ n)])) :: (aw, .inl (G.2 0, 48, .inl (iF f))) :: (hi, .inr (1, [.ref sa, .int (iZ c)])) :: (sa, .inl (G.2 5, 5, .inr (.inr (.inr (.inr (arr5 wa)))))) :: ((wa 0), .inr (9, [.ref (pa 0), .int (iZ (L 0)), .int (iZ (T 0))])) :: ((pa 0), .inr (3, [.ref (aa 0), .int (iZ (N 0))])) :: ((aa 0), .inl (G.2 0, 48, .inl (iF (F 0)))) :: ((wa 1), .inr (9, [.ref (pa 1), .int (iZ (L 1)), .int (iZ (T 1))])) :: ((pa 1), .inr (3, [.ref (aa 1), .int (iZ (N 1))])) :: ((aa 1), .inl (G.2 0, 48, .inl (iF (F 1)))) :: ((wa 2), .inr (9, [.ref (pa 2), .int (iZ (L 2)), .int (iZ (T 2))])) :: ((pa 2), .inr (3, [.ref (aa 2), .int (iZ (N 2))])) :: ((aa 2), .inl (G.2 0, 48, .inl (iF (F 2)))) :: ((wa 3), .inr (9, [.ref (pa 3), .int (iZ (L 3)), .int (iZ (T 3))])) :: ((pa 3), .inr (3, [.ref (aa 3), .int (iZ (N 3))])) :: ((aa 3), .inl (G.2 0, 48, .inl (iF (F 3)))) :: ((wa 4), .inr (9, [.ref (pa 4), .int (iZ (L 4)), .int (iZ (T 4))])) :: ((pa 4), .inr (3, [.ref (aa 4), .int (iZ (N 4))])) :: ((aa 4), .inl (G.2 0, 48, .inl (iF (F 4)))) :: (tx, .inr (8, [.ref sg, .ref fd, .int (iZ ln), .int (iZ a), .int (iZ b), .int (iZ o)])) :: (sg, .inl (G.2 3, 60, .inl (iF ch))) :: (fd, .inr (3, [.ref fa, .int (iZ fc)])) :: (fa, .inl (G.2 0, 48, .inl (iF g))) :: (sh, .inr (7, [.ref rr, .ref lo, .ref mk, .ref ea, .ref pt, .int (iZ m)])) :: (rr, .inl (G.2 4, 100, .inr (.inr (.inr (.inr (rayA ra)))))) :: (lo, .inr (2, [.ref lb, .ref lc, .int (iZ nh), .int (iZ ec), .long (lZ es)])) :: (lb, .inl (G.2 1, 3000, .inr (.inl (lF Nn)))) :: (lc, .inl (G.2 0, 600, .inl (iF Ec))) :: (mk, .inr (5, [.ref mb, .int (iZ cm)])) :: (mb, .inl (G.2 1, 434, .inr (.inl (lF wd)))) :: (ea, .inr (0, [.ref eb])) :: (eb, .inl (G.2 1, 48, .inr (.inl (lF A)))) :: (pt, .inr (4, [.ref pb, .int (iZ pc)])) :: (pb, .inl (G.2 0, 201, .inl (iF Cn))) :: raysW ra P S E T2 U) := by
  refine V_aload_n h (dk dd_L_law_4 35 rfl) rfl get1 ?_
  refine V_callSc h st1 ci_L_109 (pk_c get0 (pk_c get1 (pk_c get2 (pk_c get3 (pk_c get4 (pk_c get5 (pk_c get6 (pk_c get7 (pk_c get8 (pk_c get9 (pk_c get10 (pk_c get11 (pk_c get12 (pk_c get13 (pk_c get14 (pk_c get15 (pk_c get16 (pk_c get17 (pk_c get18 (pk_c get19 (pk_c get20 (pk_c get21 (pk_c get22 (pk_c get23 (pk_c get24 (pk_c get25 (pk_c get27 (pk_c get28 (pk_c get29 (pk_c get30 (pk_c get31 (pk_c get32 (pk_c get33 (pk_c get34 (pk_c get35 pk_n))))))))))))))))))))))))))))))))))) rfl (m_L_fails l G _ _ _ _ _ _ _ _ _ _ _ _ _ _ _ _ _ _ _ _ _ _ _ _ _ _ _ _ _ _ _ _ _ _ _ _ _ _ _ _ _ _ _ _ _ _ _ _ _ _ _ (hW.1.1) (hW.2.1) (⟨by have := hW.1.2.1; omega, by have := hW.1.2.1; omega⟩) (⟨by have := hW.1.2.2.1; omega, by have := hW.1.2.2.1; omega⟩) (WallR_f hW) (hW.2.2) (hS.1) (⟨by have := hS.2.1; omega, by have := hS.2.1; omega⟩) (⟨by have := hS.2.2.1; omega, by have := hS.2.2.1; omega⟩) (hS.2.2.2.1)) rfl rfl (Nat.le_of_ble_eq_true rfl) (by decide) ⟨rfl, rfl⟩ (cs_ok (by omega) (by omega)) (dk dd_L_law_4 36 rfl) sk1 (sm_c set0 (sm_c set1 (sm_c set2 (sm_c set3 (sm_c set4 (sm_c set5 (sm_c set6 (sm_c set7 (sm_c set8 (sm_c set9 (sm_c set10 (sm_c set11 (sm_c set12 (sm_c set13 (sm_c set14 (sm_c set15 (sm_c set16 (sm_c set17 (sm_c set18 (sm_c set19 (sm_c set20 (sm_c set21 (sm_c set22 (sm_c set23 (sm_c set24 (sm_c set25 (sm_c set27 (sm_c set28 (sm_c set29 (sm_c set30 (sm_c set31 (sm_c set32 (sm_c set33 (sm_c set34 (sm_c set35 sm_n))))))))))))))))))))))))))))))))))) ?_
  refine V_if_eq (tgt := 552) h (dk dd_L_law_4 37 rfl) rfl (by omega) (fun c469 => ?_) (fun c469 => ?_)
  · exfalso; omega
  · refine V_aload_n h (dk dd_L_law_4 38 rfl) rfl get0 ?_
    refine V_bipush h (dk dd_L_law_4 39 rfl) (by decide) ?_
    refine V_callSx h hSc st2 ci_L_113 pk_n rfl (m_L_cell l G _ _ _ _ (by omega) (hsc) (hLn)) rfl rfl (Nat.le_of_ble_eq_true rfl) (by decide) ⟨rfl, rfl⟩ (cs_ok (by omega) (by omega)) (dk dd_L_law_4 40 rfl) sk1 sm_n ?_
    refine V_sipush h (dk dd_L_law_4 41 rfl) (by decide) ?_
    refine V_callSc h st2 ci_L_103 pk_n rfl (m_L_up l G _ _ (by first | exact cell_R hsc | exact shr_R _ _ | assumption) (by decide)) rfl rfl (Nat.le_of_ble_eq_true rfl) (by decide) ⟨rfl, rfl⟩ (cs_ok (by omega) (by omega)) (dk dd_L_law_4 42 rfl) sk1 sm_n ?_
    refine V_aload_n h (dk dd_L_law_4 43 rfl) rfl get0 ?_
    refine V_bipush h (dk dd_L_law_4 44 rfl) (by decide) ?_
    refine V_callSx h hSc st2 ci_L_113 pk_n rfl (m_L_cell l G _ _ _ _ (by omega) (hsc) (hLn)) rfl rfl (Nat.le_of_ble_eq_true rfl) (by decide) ⟨rfl, rfl⟩ (cs_ok (by omega) (by omega)) (dk dd_L_law_4 45 rfl) sk1 sm_n ?_
    refine V_sipush h (dk dd_L_law_4 46 rfl) (by decide) ?_
    refine V_callSc h st2 ci_L_103 pk_n rfl (m_L_up l G _ _ (by first | exact cell_R hsc | exact shr_R _ _ | assumption) (by decide)) rfl rfl (Nat.le_of_ble_eq_true rfl) (by decide) ⟨rfl, rfl⟩ (cs_ok (by omega) (by omega)) (dk dd_L_law_4 47 rfl) sk1 sm_n ?_
    refine V_iconst h (dk dd_L_law_4 48 rfl) ?_
    refine V_aload_n h (dk dd_L_law_4 49 rfl) rfl get0 ?_
    refine V_bipush h (dk dd_L_law_5 0 rfl) (by decide) ?_
    refine V_callSx h hSc st2 ci_L_113 pk_n rfl (m_L_cell l G _ _ _ _ (by omega) (hsc) (hLn)) rfl rfl (Nat.le_of_ble_eq_true rfl) (by decide) ⟨rfl, rfl⟩ (cs_ok (by omega) (by omega)) (dk dd_L_law_5 1 rfl) sk1 sm_n ?_
    refine V_bipush h (dk dd_L_law_5 2 rfl) (by decide) ?_
    refine V_callSc h st2 ci_L_103 pk_n rfl (m_L_up l G _ _ (by first | exact cell_R hsc | exact shr_R _ _ | assumption) (by decide)) rfl rfl (Nat.le_of_ble_eq_true rfl) (by decide) ⟨rfl, rfl⟩ (cs_ok (by omega) (by omega)) (dk dd_L_law_5 3 rfl) sk1 sm_n ?_
    refine V_iadd h (dk dd_L_law_5 4 rfl) ?_
    refine V_callSm h st3 ci_L_130 pk_n rfl (m_L_aims l G _ _ _ (up_R _ (by decide)) (up_R _ (by decide)) (by have := up_R (cellF sc Ln 29) (show (0 : Int) < 50 by decide); omega)) rfl rfl (Nat.le_of_ble_eq_true rfl) (by decide) (rfl : (c1 + 136, c2 + 5444) = (c1 + 136, c2 + 5444)) (cs_ok (by omega) (by omega)) (dk dd_L_law_5 5 rfl) sk1 sm_n ?_
    refine V_if_eq (tgt := 552) h (dk dd_L_law_5 6 rfl) rfl (by omega) (fun c512 => ?_) (fun c512 => ?_)
    · exfalso; omega
    · refine V_aload_n h (dk dd_L_law_5 7 rfl) rfl get0 ?_
      refine V_bipush h (dk dd_L_law_5 8 rfl) (by decide) ?_
      refine V_callSx h hSc st2 ci_L_113 pk_n rfl (m_L_cell l G _ _ _ _ (by omega) (hsc) (hLn)) rfl rfl (Nat.le_of_ble_eq_true rfl) (by decide) ⟨rfl, rfl⟩ (cs_ok (by omega) (by omega)) (dk dd_L_law_5 9 rfl) sk1 sm_n ?_
      refine V_sipush h (dk dd_L_law_5 10 rfl) (by decide) ?_
      refine V_callSc h st2 ci_L_103 pk_n rfl (m_L_up l G _ _ (by first | exact cell_R hsc | exact shr_R _ _ | assumption) (by decide)) rfl rfl (Nat.le_of_ble_eq_true rfl) (by decide) ⟨rfl, rfl⟩ (cs_ok (by omega) (by omega)) (dk dd_L_law_5 11 rfl) sk1 sm_n ?_
      refine V_aload_n h (dk dd_L_law_5 12 rfl) rfl get0 ?_
      refine V_bipush h (dk dd_L_law_5 13 rfl) (by decide) ?_
      refine V_callSx h hSc st2 ci_L_113 pk_n rfl (m_L_cell l G _ _ _ _ (by omega) (hsc) (hLn)) rfl rfl (Nat.le_of_ble_eq_true rfl) (by decide) ⟨rfl, rfl⟩ (cs_ok (by omega) (by omega)) (dk dd_L_law_5 14 rfl) sk1 sm_n ?_
      refine V_iconst h (dk dd_L_law_5 15 rfl) ?_
      refine V_ishr h (dk dd_L_law_5 16 rfl) ?_
      refine V_sipush h (dk dd_L_law_5 17 rfl) (by decide) ?_
      refine V_callSc h st2 ci_L_103 pk_n rfl (m_L_up l G _ _ (by first | exact cell_R hsc | exact shr_R _ _ | assumption) (by decide)) rfl rfl (Nat.le_of_ble_eq_true rfl) (by decide) ⟨rfl, rfl⟩ (cs_ok (by omega) (by omega)) (dk dd_L_law_5 18 rfl) sk1 sm_n ?_
      refine V_iconst h (dk dd_L_law_5 19 rfl) ?_
      refine V_callSm h st3 ci_L_130 pk_n rfl (m_L_aims l G _ _ _ (up_R _ (by decide)) (up_R _ (by decide)) (by decide)) rfl rfl (Nat.le_of_ble_eq_true rfl) (by decide) (rfl : (c1 + 136 + 136, c2 + 5444 + 5444) = (c1 + 136 + 136, c2 + 5444 + 5444)) (cs_ok (by omega) (by omega)) (dk dd_L_law_5 20 rfl) sk1 sm_n ?_
      refine V_if_eq (tgt := 552) h (dk dd_L_law_5 21 rfl) rfl (by omega) (fun c545 => ?_) (fun c545 => ?_)
      · exfalso; omega
      · refine V_iconst h (dk dd_L_law_5 22 rfl) ?_
        refine V_goto (tgt := 553) h (dk dd_L_law_5 23 rfl) rfl ?_
        exact hEnd _ (show c1 + 136 + 136 ≤ 600000 by omega) (show c2 + 5444 + 5444 ≤ 7302250 by omega) _ _

set_option maxHeartbeats 8000000 in
set_option maxRecDepth 100000 in
theorem law_B {l : Launch} {G : GT} {nm : String} {K : KT} (h : Good l G RL nm cL_law 9 room_1 K) {bS Ln : Nat} {sc : Int → Int} (hSc : ScrK bS Ln sc K) (hsc : ∀ j, R32 (sc j)) (hLn : (Ln : Int) ≤ 260) (hEnd : ∀ cs : Nat × Nat, cs.1 ≤ 600000 → cs.2 ≤ 7302250 → ∀ (lv : List (Option Value)) (ws : va_W), V K cs 553 lv [.int (iZ 1)] ws) {x w hi tx sh pw aw sa sg fd fa rr lo mk ea pt lb lc eb mb pb : Nat} {ra : Int → Nat} {wa pa aa : Nat → Nat} {N L T : Nat → Int} {F : Nat → Int → Int} (c n lo2 z ln a b o fc m nh ec es cm pc : Int) (f ch g P S E T2 U Nn Ec A wd Cn : Int → Int) {c1 c2 : Nat} (hcs : c1 ≤ 136 ∧ c2 ≤ 5444) (hW : WallR n lo2 z c ln f ch) (hS : ShB nh m cm ec wd) : V K (c1, c2) 325 [some (.ref bS), some (.ref x), some (.int (iZ n)), none, none, none, none, none, none] [] ((x, .inr (10, [.ref w, .ref hi, .ref tx, .ref sh])) :: (w, .inr (9, [.ref pw, .int (iZ lo2), .int (iZ z)])) :: (pw, .inr (3, [.ref aw, .int (iZ n)])) :: (aw, .inl (G.2 0, 48, .inl (iF f))) :: (hi, .inr (1, [.ref sa, .int (iZ c)])) :: (sa, .inl (G.2 5, 5, .inr (.inr (.inr (.inr (arr5 wa)))))) :: ((wa 0), .inr (9, [.ref (pa 0), .int (iZ (L 0)), .int (iZ (T 0))])) :: ((pa 0), .inr (3, [.ref (aa 0), .int (iZ (N 0))])) :: ((aa 0), .inl (G.2 0, 48, .inl (iF (F 0)))) :: ((wa 1), .inr (9, [.ref (pa 1), .int (iZ (L 1)), .int (iZ (T 1))])) :: ((pa 1), .inr (3, [.ref (aa 1), .int (iZ (N 1))])) :: ((aa 1), .inl (G.2 0, 48, .inl (iF (F 1)))) :: ((wa 2), .inr (9, [.ref (pa 2), .int (iZ (L 2)), .int (iZ (T 2))])) :: ((pa 2), .inr (3, [.ref (aa 2), .int (iZ (N 2))])) :: ((aa 2), .inl (G.2 0, 48, .inl (iF (F 2)))) :: ((wa 3), .inr (9, [.ref (pa 3), .int (iZ (L 3)), .int (iZ (T 3))])) :: ((pa 3), .inr (3, [.ref (aa 3), .int (iZ (N 3))])) :: ((aa 3), .inl (G.2 0, 48, .inl (iF (F 3)))) :: ((wa 4), .inr (9, [.ref (pa 4), .int (iZ (L 4)), .int (iZ (T 4))])) :: ((pa 4), .inr (3, [.ref (aa 4), .int (iZ (N 4))])) :: ((aa 4), .inl (G.2 0, 48, .inl (iF (F 4)))) :: (tx, .inr (8, [.ref sg, .ref fd, .int (iZ ln), .int (iZ a), .int (iZ b), .int (iZ o)])) :: (sg, .inl (G.2 3, 60, .inl (iF ch))) :: (fd, .inr (3, [.ref fa, .int (iZ fc)])) :: (fa, .inl (G.2 0, 48, .inl (iF g))) :: (sh, .inr (7, [.ref rr, .ref lo, .ref mk, .ref ea, .ref pt, .int (iZ m)])) :: (rr, .inl (G.2 4, 100, .inr (.inr (.inr (.inr (rayA ra)))))) :: (lo, .inr (2, [.ref lb, .ref lc, .int (iZ nh), .int (iZ ec), .long (lZ es)])) :: (lb, .inl (G.2 1, 3000, .inr (.inl (lF Nn)))) :: (lc, .inl (G.2 0, 600, .inl (iF Ec))) :: (mk, .inr (5, [.ref mb, .int (iZ cm)])) :: (mb, .inl (G.2 1, 434, .inr (.inl (lF wd)))) :: (ea, .inr (0, [.ref eb])) :: (eb, .inl (G.2 1, 48, .inr (.inl (lF A)))) :: (pt, .inr (4, [.ref pb, .int (iZ pc)])) :: (pb, .inl (G.2 0, 201, .inl (iF Cn))) :: raysW ra P S E T2 U) := by
  refine V_iconst h (dk dd_L_law_3 12 rfl) ?_
  refine V_istore_n h (dk dd_L_law_3 13 rfl) rfl (Nat.le_of_ble_eq_true rfl) rfl set3 ?_
  have L327 : ∀ (fu : Nat) (k : Int) (c1 c2 : Nat) (m nh ec es cm pc : Int) (P S E T2 U Nn Ec A wd Cn : Int → Int), (0 ≤ k ∧ k ≤ 3) ∧ ((c1 : Int) ≤ 136 + 2 * k ∧ (c2 : Int) ≤ 5444 + 128 * k) ∧ ShB nh m cm ec wd → (3 - k).toNat < fu → V K (c1, c2) 327 [some (.ref bS), some (.ref x), some (.int (iZ n)), some (.int (iZ k)), none, none, none, none, none] [] ((x, .inr (10, [.ref w, .ref hi, .ref tx, .ref sh])) :: (w, .inr (9, [.ref pw, .int (iZ lo2), .int (iZ z)])) :: (pw, .inr (3, [.ref aw, .int (iZ n)])) :: (aw, .inl (G.2 0, 48, .inl (iF f))) :: (hi, .inr (1, [.ref sa, .int (iZ c)])) :: (sa, .inl (G.2 5, 5, .inr (.inr (.inr (.inr (arr5 wa)))))) :: ((wa 0), .inr (9, [.ref (pa 0), .int (iZ (L 0)), .int (iZ (T 0))])) :: ((pa 0), .inr (3, [.ref (aa 0), .int (iZ (N 0))])) :: ((aa 0), .inl (G.2 0, 48, .inl (iF (F 0)))) :: ((wa 1), .inr (9, [.ref (pa 1), .int (iZ (L 1)), .int (iZ (T 1))])) :: ((pa 1), .inr (3, [.ref (aa 1), .int (iZ (N 1))])) :: ((aa 1), .inl (G.2 0, 48, .inl (iF (F 1)))) :: ((wa 2), .inr (9, [.ref (pa 2), .int (iZ (L 2)), .int (iZ (T 2))])) :: ((pa 2), .inr (3, [.ref (aa 2), .int (iZ (N 2))])) :: ((aa 2), .inl (G.2 0, 48, .inl (iF (F 2)))) :: ((wa 3), .inr (9, [.ref (pa 3), .int (iZ (L 3)), .int (iZ (T 3))])) :: ((pa 3), .inr (3, [.ref (aa 3), .int (iZ (N 3))])) :: ((aa 3), .inl (G.2 0, 48, .inl (iF (F 3)))) :: ((wa 4), .inr (9, [.ref (pa 4), .int (iZ (L 4)), .int (iZ (T 4))])) :: ((pa 4), .inr (3, [.ref (aa 4), .int (iZ (N 4))])) :: ((aa 4), .inl (G.2 0, 48, .inl (iF (F 4)))) :: (tx, .inr (8, [.ref sg, .ref fd, .int (iZ ln), .int (iZ a), .int (iZ b), .int (iZ o)])) :: (sg, .inl (G.2 3, 60, .inl (iF ch))) :: (fd, .inr (3, [.ref fa, .int (iZ fc)])) :: (fa, .inl (G.2 0, 48, .inl (iF g))) :: (sh, .inr (7, [.ref rr, .ref lo, .ref mk, .ref ea, .ref pt, .int (iZ m)])) :: (rr, .inl (G.2 4, 100, .inr (.inr (.inr (.inr (rayA ra)))))) :: (lo, .inr (2, [.ref lb, .ref lc, .int (iZ nh), .int (iZ ec), .long (lZ es)])) :: (lb, .inl (G.2 1, 3000, .inr (.inl (lF Nn)))) :: (lc, .inl (G.2 0, 600, .inl (iF Ec))) :: (mk, .inr (5, [.ref mb, .int (iZ cm)])) :: (mb, .inl (G.2 1, 434, .inr (.inl (lF wd)))) :: (ea, .inr (0, [.ref eb])) :: (eb, .inl (G.2 1, 48, .inr (.inl (lF A)))) :: (pt, .inr (4, [.ref pb, .int (iZ pc)])) :: (pb, .inl (G.2 0, 201, .inl (iF Cn))) :: raysW ra P S E T2 U) := by
    intro fu
    induction fu with
    | zero => intro k c1 c2 m nh ec es cm pc P S E T2 U Nn Ec A wd Cn _ hm; exact absurd hm (Nat.not_lt_zero _)
    | succ fu ih327 =>
      intro k c1 c2 m nh ec es cm pc P S E T2 U Nn Ec A wd Cn hI327 hm327
      obtain ⟨hk, hcs, hS⟩ := hI327
      refine V_iload_n h (dk dd_L_law_3 14 rfl) rfl get3 ?_
      refine V_iconst h (dk dd_L_law_3 15 rfl) ?_
      refine V_icmp_ge (tgt := 465) h (dk dd_L_law_3 16 rfl) rfl (by omega) (fun c329 => ?_) (fun c329 => ?_)
      · refine V_wk (lv' := [some (.ref bS), some (.ref x), none, none, none, none, none, none, none]) (lw_s (lw_s (lw_o (lw_o (lw_s (lw_s (lw_s (lw_s (lw_s lw_n))))))))) ?_
        exact law_C h hSc hsc hLn hEnd _ _ _ _ _ _ _ _ _ _ _ _ _ _ _ _ _ _ _ _ _ _ _ _ _ _ _ _ ⟨by omega, by omega⟩ hW hS
      · refine V_aload_n h (dk dd_L_law_3 17 rfl) rfl get0 ?_
        refine V_bipush h (dk dd_L_law_3 18 rfl) (by decide) ?_
        refine V_iload_n h (dk dd_L_law_3 19 rfl) rfl get3 ?_
        refine V_iadd h (dk dd_L_law_3 20 rfl) ?_
        refine V_callSx h hSc st2 ci_L_113 pk_n rfl (m_L_cell l G _ _ _ _ (by omega) (hsc) (hLn)) rfl rfl (Nat.le_of_ble_eq_true rfl) (by decide) ⟨rfl, rfl⟩ (cs_ok (by omega) (by omega)) (dk dd_L_law_3 21 rfl) sk1 sm_n ?_
        refine V_sipush h (dk dd_L_law_3 22 rfl) (by decide) ?_
        refine V_callSc h st2 ci_L_103 pk_n rfl (m_L_up l G _ _ (by first | exact cell_R hsc | exact shr_R _ _ | assumption) (by decide)) rfl rfl (Nat.le_of_ble_eq_true rfl) (by decide) ⟨rfl, rfl⟩ (cs_ok (by omega) (by omega)) (dk dd_L_law_3 23 rfl) sk1 sm_n ?_
        have u1 := up_R (cellF sc Ln (18 + k)) (show (0 : Int) < 27720 by decide)
        generalize upF (cellF sc Ln (18 + k)) 27720 = pl at u1 ⊢
        refine V_istore h (dk dd_L_law_3 24 rfl) (Nat.le_of_ble_eq_true rfl) rfl set4 ?_
        refine V_aload_n h (dk dd_L_law_3 25 rfl) rfl get0 ?_
        refine V_bipush h (dk dd_L_law_3 26 rfl) (by decide) ?_
        refine V_iload_n h (dk dd_L_law_3 27 rfl) rfl get3 ?_
        refine V_iadd h (dk dd_L_law_3 28 rfl) ?_
        refine V_callSx h hSc st2 ci_L_113 pk_n rfl (m_L_cell l G _ _ _ _ (by omega) (hsc) (hLn)) rfl rfl (Nat.le_of_ble_eq_true rfl) (by decide) ⟨rfl, rfl⟩ (cs_ok (by omega) (by omega)) (dk dd_L_law_3 29 rfl) sk1 sm_n ?_
        refine V_callSc h st1 ci_L_117 pk_n rfl (m_L_step l G _ (cell_R hsc)) rfl rfl (Nat.le_of_ble_eq_true rfl) (by decide) ⟨rfl, rfl⟩ (cs_ok (by omega) (by omega)) (dk dd_L_law_3 30 rfl) sk1 sm_n ?_
        have u2 := step_R (cellF sc Ln (21 + k))
        generalize stepF (cellF sc Ln (21 + k)) = sp at u2 ⊢
        refine V_istore h (dk dd_L_law_3 31 rfl) (Nat.le_of_ble_eq_true rfl) rfl set5 ?_
        refine V_iconst h (dk dd_L_law_3 32 rfl) ?_
        refine V_aload_n h (dk dd_L_law_3 33 rfl) rfl get0 ?_
        refine V_bipush h (dk dd_L_law_3 34 rfl) (by decide) ?_
        refine V_iload_n h (dk dd_L_law_3 35 rfl) rfl get3 ?_
        refine V_iadd h (dk dd_L_law_3 36 rfl) ?_
        refine V_callSx h hSc st2 ci_L_113 pk_n rfl (m_L_cell l G _ _ _ _ (by omega) (hsc) (hLn)) rfl rfl (Nat.le_of_ble_eq_true rfl) (by decide) ⟨rfl, rfl⟩ (cs_ok (by omega) (by omega)) (dk dd_L_law_3 37 rfl) sk1 sm_n ?_
        refine V_ldc h q3_158 (dk dd_L_law_3 38 rfl) ?_
        refine V_callSc h st2 ci_L_103 pk_n rfl (m_L_up l G _ _ (by first | exact cell_R hsc | exact shr_R _ _ | assumption) (by decide)) rfl rfl (Nat.le_of_ble_eq_true rfl) (by decide) ⟨rfl, rfl⟩ (cs_ok (by omega) (by omega)) (dk dd_L_law_3 39 rfl) sk1 sm_n ?_
        have u3 := up_R (cellF sc Ln (24 + k)) (show (0 : Int) < 1000000 by decide)
        generalize upF (cellF sc Ln (24 + k)) 1000000 = en0 at u3 ⊢
        refine V_iadd h (dk dd_L_law_3 40 rfl) ?_
        have u3 : 1 ≤ 1 + en0 ∧ 1 + en0 ≤ 1000000 := by omega
        generalize 1 + en0 = en at u3 ⊢
        have u2a := u2.1
        have u2b := u2.2.1
        have u2c := u2.2.2
        refine V_istore h (dk dd_L_law_3 41 rfl) (Nat.le_of_ble_eq_true rfl) rfl set6 ?_
        refine V_aload_n h (dk dd_L_law_3 42 rfl) rfl get1 ?_
        refine V_iload h (dk dd_L_law_3 43 rfl) get4 ?_
        refine V_iload h (dk dd_L_law_3 44 rfl) get5 ?_
        refine V_iload h (dk dd_L_law_3 45 rfl) get6 ?_
        refine V_callVc h st4 ci_L_40 (pk_c get0 (pk_c get25 (pk_c get26 (pk_c get27 (pk_c get28 (pk_c get29 (pk_c get30 (pk_c get31 (pk_c get32 (pk_c get33 (pk_c get34 (pk_c get35 (pk_c get1 (pk_c get2 (pk_c get3 pt36))))))))))))))) (by decide +kernel) 0 get0 (m_shoot_ok l G _ _ _ _ _ _ _ _ _ _ _ _ _ _ _ _ _ _ _ _ _ _ _ _ _ _ _ _ _ _ _ _ _ _ _ _ _ _ _ _ _ (by omega) (by omega) (by omega) (⟨u1, u2, u3⟩) (hW.1) (hS.2.2.2.2)) rfl rfl rfl (by decide) (Nat.le_of_ble_eq_true rfl) ⟨rfl, rfl⟩ (cs_ok (by omega) (by omega)) (dk dd_L_law_3 46 rfl) sk1 (sm_c set0 (sm_c set25 (sm_c set26 (sm_c set27 (sm_c set28 (sm_c set29 (sm_c set30 (sm_c set31 (sm_c set32 (sm_c set33 (sm_c set34 (sm_c set35 (sm_c set1 (sm_c set2 (sm_c set3 stl36))))))))))))))) ?_
        have hall := shot_all (n := n) (lo := lo2) (z := z) (f := f) (y := (((m, P, S, E, T2, U), A, ec, Ec), (nh, es, Nn), (cm, wd), pc, Cn)) hW.1 u1 u2 u3 hS.2.2.2.2
        generalize itX z lo2 n f 600 (ini0 pl sp en (((m, P, S, E, T2, U), A, ec, Ec), (nh, es, Nn), (cm, wd), pc, Cn)) = Y at hall ⊢
        obtain ⟨hF1, hG1, hh1, hSim⟩ := hall
        have hS1 := FI_ShB hF1
        obtain ⟨⟨⟨m1, P1, S1, E1, T1, U1⟩, A1, ec1, Ec1⟩, ⟨h1, es1, N1⟩, ⟨cm1, wd1⟩, pc1, Cn1⟩ := Y
        dsimp only at hG1 hh1 hS1 ⊢
        have hS1a := hS1.1
        refine V_aload_n h (dk dd_L_law_3 47 rfl) rfl get1 ?_
        refine V_callVc h st1 ci_L_44 (pk_c get0 (pk_c get25 (pk_c get27 (pk_c get28 (pk_c get29 pk_n))))) rfl 0 get0 (m_X11_hits l G _ _ _ _ _ _ _ _ _ _ _ _ _ _ _ _ _ _ ) rfl rfl rfl (by decide) (Nat.le_of_ble_eq_true rfl) ⟨rfl, rfl⟩ (cs_ok (by omega) (by omega)) (dk dd_L_law_3 48 rfl) sk1 (sm_c set0 (sm_c set25 (sm_c set27 (sm_c set28 (sm_c set29 sm_n))))) ?_
        refine V_icmp_ne (tgt := 425) h (dk dd_L_law_3 49 rfl) rfl (by omega) (fun c392 => ?_) (fun c392 => ?_)
        · exfalso; omega
        · refine V_aload_n h (dk dd_L_law_4 0 rfl) rfl get1 ?_
          refine V_iload h (dk dd_L_law_4 1 rfl) get4 ?_
          refine V_iload h (dk dd_L_law_4 2 rfl) get5 ?_
          refine V_iload h (dk dd_L_law_4 3 rfl) get6 ?_
          refine V_callSm h st4 ci_L_121 (pk_c get0 (pk_c get25 (pk_c get27 (pk_c get28 (pk_c get29 pk_n))))) rfl (m_L_hits l G _ _ _ _ _ _ _ _ _ _ _ _ _ _ _ _ _ _ _ _ _ (hG1.2.1) (⟨hh1, hS1.1.2⟩) (⟨hG1.1, hS1.2.1.2⟩) (hG1.2.2.2.2.2.2) (u1) (u3)) rfl rfl (Nat.le_of_ble_eq_true rfl) (by decide) (rfl : (c1 + 2, c2 + 128) = (c1 + 2, c2 + 128)) (cs_ok (by omega) (by omega)) (dk dd_L_law_4 4 rfl) sk1 (sm_c set0 (sm_c set25 (sm_c set27 (sm_c set28 (sm_c set29 sm_n))))) ?_
          refine V_if_eq (tgt := 425) h (dk dd_L_law_4 5 rfl) rfl (by omega) (fun c405 => ?_) (fun c405 => ?_)
          · exfalso; omega
          · refine V_aload_n h (dk dd_L_law_4 6 rfl) rfl get1 ?_
            refine V_iload_n h (dk dd_L_law_4 7 rfl) rfl get2 ?_
            refine V_callSc h st2 ci_L_124 (pk_c get0 (pk_c get1 (pk_c get2 (pk_c get3 (pk_c get25 (pk_c get27 (pk_c get28 (pk_c get29 (pk_c get32 (pk_c get33 pk_n)))))))))) rfl (m_L_heard l G _ _ _ _ _ _ _ _ _ _ _ _ _ _ _ _ _ _ _ _ _ _ _ _ _ _ _ _ _ (hG1.2.2.2.2.2.1) (show 12 * h1 ≤ 7200 by omega) (hS1.2.2.2.1) (⟨hh1, hS1.1.2⟩) (hW.1.1) (⟨GI_t0 hG1 hh1, (chord_nn u2).1, (chord_nn u2).2⟩) (fun j a b => by have q := hF1.2.1.1 j a b; dsimp only at q; omega) (u3.2) (fun j a b => by have q := hF1.2.1.2.2 j a b; dsimp only at q; exact ⟨by omega, by omega⟩)) rfl rfl (Nat.le_of_ble_eq_true rfl) (by decide) ⟨rfl, rfl⟩ (cs_ok (by omega) (by omega)) (dk dd_L_law_4 8 rfl) sk1 (sm_c set0 (sm_c set1 (sm_c set2 (sm_c set3 (sm_c set25 (sm_c set27 (sm_c set28 (sm_c set29 (sm_c set32 (sm_c set33 sm_n)))))))))) ?_
            refine V_if_eq (tgt := 425) h (dk dd_L_law_4 9 rfl) rfl (by omega) (fun c413 => ?_) (fun c413 => ?_)
            · exfalso; omega
            · refine V_aload_n h (dk dd_L_law_4 10 rfl) rfl get1 ?_
              refine V_iload h (dk dd_L_law_4 11 rfl) get5 ?_
              refine V_callSc h st2 ci_L_127 (pk_c get0 pk_n) rfl (m_L_chords l G _ _ _ _ _ _ (u2)) rfl rfl (Nat.le_of_ble_eq_true rfl) (by decide) ⟨rfl, rfl⟩ (cs_ok (by omega) (by omega)) (dk dd_L_law_4 12 rfl) sk1 (sm_c set0 sm_n) ?_
              refine V_if_ne (tgt := 427) h (dk dd_L_law_4 13 rfl) rfl (by omega) (fun c422 => ?_) (fun c422 => ?_)
              · refine V_aload_n h (dk dd_L_law_4 16 rfl) rfl get1 ?_
                refine V_callVc h st1 ci_L_9 (pk_c get0 (pk_c get1 (pk_c get2 (pk_c get3 (pk_c get25 (pk_c get27 (pk_c get28 (pk_c get29 (pk_c get30 (pk_c get31 (pk_c get32 (pk_c get33 pk_n)))))))))))) rfl 0 get0 (m_X11_fingerprint l G _ _ _ _ _ _ _ _ _ _ _ _ _ _ _ _ _ _ _ _ _ _ _ _ _ _ _ _ _ (hW.1.1) (WallR_f hW) (⟨by have := hW.1.2.1; omega, by have := hW.1.2.1; omega⟩) (⟨by have := hW.1.2.2.1; omega, by have := hW.1.2.2.1; omega⟩) (hS1.1) (⟨by have := hS1.2.1; omega, by have := hS1.2.1; omega⟩) (⟨by have := hS1.2.2.1; omega, by have := hS1.2.2.1; omega⟩)) rfl rfl rfl (by decide) (Nat.le_of_ble_eq_true rfl) ⟨rfl, rfl⟩ (cs_ok (by omega) (by omega)) (dk dd_L_law_4 17 rfl) sk1 (sm_c set0 (sm_c set1 (sm_c set2 (sm_c set3 (sm_c set25 (sm_c set27 (sm_c set28 (sm_c set29 (sm_c set30 (sm_c set31 (sm_c set32 (sm_c set33 sm_n)))))))))))) ?_
                refine V_lstore h (dk dd_L_law_4 18 rfl) (Nat.le_of_ble_eq_true rfl) rfl set7 set8 ?_
                refine V_aload_n h (dk dd_L_law_4 19 rfl) rfl get1 ?_
                refine V_iload h (dk dd_L_law_4 20 rfl) get4 ?_
                refine V_iload h (dk dd_L_law_4 21 rfl) get5 ?_
                refine V_iload h (dk dd_L_law_4 22 rfl) get6 ?_
                refine V_callVc h st4 ci_L_40 (pk_c get0 (pk_c get25 (pk_c get26 (pk_c get27 (pk_c get28 (pk_c get29 (pk_c get30 (pk_c get31 (pk_c get32 (pk_c get33 (pk_c get34 (pk_c get35 (pk_c get1 (pk_c get2 (pk_c get3 pt36))))))))))))))) (by decide +kernel) 0 get0 (m_shoot_ok l G _ _ _ _ _ _ _ _ _ _ _ _ _ _ _ _ _ _ _ _ _ _ _ _ _ _ _ _ _ _ _ _ _ _ _ _ _ _ _ _ _ (by omega) (by omega) (by omega) (⟨u1, u2, u3⟩) (hW.1) (hS1.2.2.2.2)) rfl rfl rfl (by decide) (Nat.le_of_ble_eq_true rfl) ⟨rfl, rfl⟩ (cs_ok (by omega) (by omega)) (dk dd_L_law_4 23 rfl) sk1 (sm_c set0 (sm_c set25 (sm_c set26 (sm_c set27 (sm_c set28 (sm_c set29 (sm_c set30 (sm_c set31 (sm_c set32 (sm_c set33 (sm_c set34 (sm_c set35 (sm_c set1 (sm_c set2 (sm_c set3 stl36))))))))))))))) ?_
                have hall2 := shot_all (n := n) (lo := lo2) (z := z) (f := f) (y := (((m1, P1, S1, E1, T1, U1), A1, ec1, Ec1), (h1, es1, N1), (cm1, wd1), pc1, Cn1)) hW.1 u1 u2 u3 hS1.2.2.2.2
                have hfp := fp_sim (n := n) (lo := lo2) (z := z) (f := f) (hSim (((m1, P1, S1, E1, T1, U1), A1, ec1, Ec1), (h1, es1, N1), (cm1, wd1), pc1, Cn1))
                generalize itX z lo2 n f 600 (ini0 pl sp en (((m1, P1, S1, E1, T1, U1), A1, ec1, Ec1), (h1, es1, N1), (cm1, wd1), pc1, Cn1)) = Y2 at hall2 hfp ⊢
                obtain ⟨hF2, hG2, hh2, -⟩ := hall2
                have hS2 := FI_ShB hF2
                obtain ⟨⟨⟨m2, P2, S2, E2, T2', U2⟩, A2, ec2, Ec2⟩, ⟨h2, es2, N2⟩, ⟨cm2, wd2⟩, pc2, Cn2⟩ := Y2
                dsimp only at hh2 hS2 hfp ⊢
                have hS2a := hS2.1
                refine V_iconst h (dk dd_L_law_4 24 rfl) ?_
                refine V_icmp_lt (tgt := 457) h (dk dd_L_law_4 25 rfl) rfl (by omega) (fun c444 => ?_) (fun c444 => ?_)
                · exfalso; omega
                · refine V_aload_n h (dk dd_L_law_4 26 rfl) rfl get1 ?_
                  refine V_callVc h st1 ci_L_9 (pk_c get0 (pk_c get1 (pk_c get2 (pk_c get3 (pk_c get25 (pk_c get27 (pk_c get28 (pk_c get29 (pk_c get30 (pk_c get31 (pk_c get32 (pk_c get33 pk_n)))))))))))) rfl 0 get0 (m_X11_fingerprint l G _ _ _ _ _ _ _ _ _ _ _ _ _ _ _ _ _ _ _ _ _ _ _ _ _ _ _ _ _ (hW.1.1) (WallR_f hW) (⟨by have := hW.1.2.1; omega, by have := hW.1.2.1; omega⟩) (⟨by have := hW.1.2.2.1; omega, by have := hW.1.2.2.1; omega⟩) (hS2.1) (⟨by have := hS2.2.1; omega, by have := hS2.2.1; omega⟩) (⟨by have := hS2.2.2.1; omega, by have := hS2.2.2.1; omega⟩)) rfl rfl rfl (by decide) (Nat.le_of_ble_eq_true rfl) ⟨rfl, rfl⟩ (cs_ok (by omega) (by omega)) (dk dd_L_law_4 27 rfl) sk1 (sm_c set0 (sm_c set1 (sm_c set2 (sm_c set3 (sm_c set25 (sm_c set27 (sm_c set28 (sm_c set29 (sm_c set30 (sm_c set31 (sm_c set32 (sm_c set33 sm_n)))))))))))) ?_
                  refine V_lload h (dk dd_L_law_4 28 rfl) get7 ?_
                  rw [hfp]
                  refine V_lcmp_same h (dk dd_L_law_4 29 rfl) ?_
                  refine V_if_eq (tgt := 459) h (dk dd_L_law_4 30 rfl) rfl (by omega) (fun c454 => ?_) (fun c454 => ?_)
                  · refine V_iinc h (dk dd_L_law_4 33 rfl) get3 (Nat.le_of_ble_eq_true rfl) rfl set3 ?_
                    refine V_goto (tgt := 327) h (dk dd_L_law_4 34 rfl) rfl ?_
                    refine V_wk (lw_s (lw_s (lw_s (lw_s (lw_o (lw_o (lw_o (lw_o (lw_s lw_n))))))))) ?_
                    exact ih327 _ _ _ _ _ _ _ _ _ _ _ _ _ _ _ _ _ _ _ ⟨by omega, ⟨by omega, by omega⟩, hS2⟩ (by omega)
                  · exfalso; omega
              · exfalso; omega
  exact L327 _ 0 _ _ _ _ _ _ _ _ _ _ _ _ _ _ _ _ _ _ ⟨by omega, ⟨by omega, by omega⟩, hS⟩ (Nat.lt_succ_self _)

