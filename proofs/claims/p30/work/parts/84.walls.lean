/-! the law: its walls -/
theorem kc_b {c : Int} (h : 0 ≤ c ∧ c ≤ 5) : 1 ≤ kc c ∧ kc c ≤ 5 := by unfold kc; split <;> omega
theorem kp_top {α : Type} {g : Nat → α} {c : Int} {x : α} (h : 0 ≤ c ∧ c ≤ 5) : kp g c x (kc c - 1).toNat = x := by
  unfold kp kc
  by_cases h5 : c = 5
  · rw [if_pos h5, if_pos h5]
    exact if_pos rfl
  · rw [if_neg h5, if_neg h5]
    unfold up1
    exact if_pos (by omega)
theorem cpy_EqB {f g : Int → Int} {n : Int} : EqB n (cpyF f g 0 0 n) f := fun j a b => by
  unfold cpyF
  rw [if_pos ⟨a, by omega⟩]
  congr 1
  omega
theorem EqB.tr {n : Int} {f g h : Int → Int} (a : EqB n f g) (b : EqB n g h) : EqB n f h := fun j x y => (a j x y).trans (b j x y)
theorem app_at {f : Int → Int} {n k a m b : Int} : appF f n k a m b (n * 4 + 0) = k ∧ appF f n k a m b (n * 4 + 1) = a ∧ appF f n k a m b (n * 4 + 2) = m ∧ appF f n k a m b (n * 4 + 3) = b := by
  unfold appF
  refine ⟨?_, ?_, ?_, zup_s⟩
  · rw [zup_n (by omega), zup_n (by omega), zup_n (by omega), zup_s]
  · rw [zup_n (by omega), zup_n (by omega), zup_s]
  · rw [zup_n (by omega), zup_s]
theorem app_o {f : Int → Int} {n k a m b j : Int} (h : j < n * 4) : appF f n k a m b j = f j := by
  unfold appF
  rw [zup_n (by omega), zup_n (by omega), zup_n (by omega), zup_n (by omega)]
theorem app_OK {f : Int → Int} {n k a m b : Int} (h : ∀ j, 0 ≤ j → j < n → PartOK f j) (hA : allowP k a m b) : ∀ j, 0 ≤ j → j < n + 1 → PartOK (appF f n k a m b) j := fun j x y => by
  by_cases hj : j = n
  · subst hj
    obtain ⟨e0, e1, e2, e3⟩ := app_at (f := f) (n := j) (k := k) (a := a) (m := m) (b := b)
    unfold PartOK
    rw [e0, e1, e2, e3]
    exact hA
  · have q := h j x (by omega)
    unfold PartOK at q ⊢
    rw [app_o (by omega), app_o (by omega), app_o (by omega), app_o (by omega)]
    exact q
theorem Eq_OK {f g : Int → Int} {n : Int} (hE : EqB (n * 4) g f) (h : ∀ j, 0 ≤ j → j < n → PartOK f j) : ∀ j, 0 ≤ j → j < n → PartOK g j := fun j x y => by
  have q := h j x y
  unfold PartOK at q ⊢
  rw [hE _ (by omega) (by omega), hE _ (by omega) (by omega), hE _ (by omega) (by omega), hE _ (by omega) (by omega)]
  exact q

set_option maxHeartbeats 8000000 in
set_option maxRecDepth 100000 in
theorem law_A2 {l : Launch} {G : GT} {nm : String} {K : KT} (h : Good l G RL nm cL_law 9 room_1 K) {bS Ln : Nat} {sc : Int → Int} (hSc : ScrK bS Ln sc K) (hsc : ∀ j, R32 (sc j)) (hLn : (Ln : Int) ≤ 260) (hEnd : ∀ cs : Nat × Nat, cs.1 ≤ 600000 → cs.2 ≤ 7302250 → ∀ (lv : List (Option Value)) (ws : va_W), V K cs 553 lv [.int (iZ 1)] ws) {x w hi tx sh pw aw sa sg fd fa rr lo mk ea pt lb lc eb mb pb : Nat} {ra : Int → Nat} {wa pa aa : Nat → Nat} {N L T : Nat → Int} {F : Nat → Int → Int} (n c : Int) (f : Int → Int) {c1 c2 : Nat} (hcs : c1 ≤ 136 ∧ c2 ≤ 5444) (hW : WallR n 10 1000 c 0 f z0) : V K (c1, c2) 275 [some (.ref bS), some (.ref x), some (.int (iZ n)), none, none, none, none, none, none] [] ((x, .inr (10, [.ref w, .ref hi, .ref tx, .ref sh])) :: (w, .inr (9, [.ref pw, .int (iZ 10), .int (iZ 1000)])) :: (pw, .inr (3, [.ref aw, .int (iZ n)])) :: (aw, .inl (G.2 0, 48, .inl (iF f))) :: (hi, .inr (1, [.ref sa, .int (iZ c)])) :: (sa, .inl (G.2 5, 5, .inr (.inr (.inr (.inr (arr5 wa)))))) :: ((wa 0), .inr (9, [.ref (pa 0), .int (iZ (L 0)), .int (iZ (T 0))])) :: ((pa 0), .inr (3, [.ref (aa 0), .int (iZ (N 0))])) :: ((aa 0), .inl (G.2 0, 48, .inl (iF (F 0)))) :: ((wa 1), .inr (9, [.ref (pa 1), .int (iZ (L 1)), .int (iZ (T 1))])) :: ((pa 1), .inr (3, [.ref (aa 1), .int (iZ (N 1))])) :: ((aa 1), .inl (G.2 0, 48, .inl (iF (F 1)))) :: ((wa 2), .inr (9, [.ref (pa 2), .int (iZ (L 2)), .int (iZ (T 2))])) :: ((pa 2), .inr (3, [.ref (aa 2), .int (iZ (N 2))])) :: ((aa 2), .inl (G.2 0, 48, .inl (iF (F 2)))) :: ((wa 3), .inr (9, [.ref (pa 3), .int (iZ (L 3)), .int (iZ (T 3))])) :: ((pa 3), .inr (3, [.ref (aa 3), .int (iZ (N 3))])) :: ((aa 3), .inl (G.2 0, 48, .inl (iF (F 3)))) :: ((wa 4), .inr (9, [.ref (pa 4), .int (iZ (L 4)), .int (iZ (T 4))])) :: ((pa 4), .inr (3, [.ref (aa 4), .int (iZ (N 4))])) :: ((aa 4), .inl (G.2 0, 48, .inl (iF (F 4)))) :: (tx, .inr (8, [.ref sg, .ref fd, .int (iZ 0), .int (iZ 0), .int (iZ 0), .int (iZ 0)])) :: (sg, .inl (G.2 3, 60, .inl (iF z0))) :: (fd, .inr (3, [.ref fa, .int (iZ 0)])) :: (fa, .inl (G.2 0, 48, .inl (iF z0))) :: (sh, .inr (7, [.ref rr, .ref lo, .ref mk, .ref ea, .ref pt, .int (iZ 0)])) :: (rr, .inl (G.2 4, 100, .inr (.inr (.inr (.inr (rayA ra)))))) :: (lo, .inr (2, [.ref lb, .ref lc, .int (iZ 0), .int (iZ 0), .long (lZ 0)])) :: (lb, .inl (G.2 1, 3000, .inr (.inl (lF z0)))) :: (lc, .inl (G.2 0, 600, .inl (iF z0))) :: (mk, .inr (5, [.ref mb, .int (iZ 0)])) :: (mb, .inl (G.2 1, 434, .inr (.inl (lF z0)))) :: (ea, .inr (0, [.ref eb])) :: (eb, .inl (G.2 1, 48, .inr (.inl (lF (ear0 z0 12))))) :: (pt, .inr (4, [.ref pb, .int (iZ 0)])) :: (pb, .inl (G.2 0, 201, .inl (iF z0))) :: raysW ra (fun _ => 0) (fun _ => 0) (fun _ => 0) (fun _ => 0) (fun _ => 0)) := by
  have hk1 := kc_b hW.2.1
  have hk2 := kc_b (c := kc c) ⟨by omega, by omega⟩
  have hn := hW.1.1
  have hc := hW.2.1
  have w1 := up_R (cellF sc Ln 17) (show (0 : Int) < 200 by decide)
  have w2 := up_R (shrZ (cellF sc Ln 17) 8) (show (0 : Int) < 5000 by decide)
  refine V_aload_n h (dk dd_L_law_2 38 rfl) rfl get1 ?_
  refine V_aload_n h (dk dd_L_law_2 39 rfl) rfl get0 ?_
  refine V_bipush h (dk dd_L_law_2 40 rfl) (by decide) ?_
  refine V_callSx h hSc st2 ci_L_113 pk_n rfl (m_L_cell l G _ _ _ _ (by omega) (hsc) (hLn)) rfl rfl (Nat.le_of_ble_eq_true rfl) (by decide) ⟨rfl, rfl⟩ (cs_ok (by omega) (by omega)) (dk dd_L_law_2 41 rfl) sk1 sm_n ?_
  refine V_sipush h (dk dd_L_law_2 42 rfl) (by decide) ?_
  refine V_callSc h st2 ci_L_103 pk_n rfl (m_L_up l G _ _ (by first | exact cell_R hsc | exact shr_R _ _ | assumption) (by decide)) rfl rfl (Nat.le_of_ble_eq_true rfl) (by decide) ⟨rfl, rfl⟩ (cs_ok (by omega) (by omega)) (dk dd_L_law_2 43 rfl) sk1 sm_n ?_
  refine V_callVc h st2 ci_L_34 (pk_c get0 (pk_c get1 (pk_c get2 (pk_c get3 (pk_c get4 (pk_c get5 (pk_c get6 (pk_c get7 (pk_c get8 (pk_c get9 (pk_c get10 (pk_c get11 (pk_c get12 (pk_c get13 (pk_c get14 (pk_c get15 (pk_c get16 (pk_c get17 (pk_c get18 (pk_c get19 (pk_c get20 pk_n))))))))))))))))))))) rfl 0 get0 (m_setLoss_ok l G _ _ _ _ _ _ _ _ _ _ _ _ _ _ _ _ _ _ _ _ _ (by omega) (by omega) (by omega) (by omega)) rfl rfl rfl (by decide) (Nat.le_of_ble_eq_true rfl) ⟨rfl, rfl⟩ (cs_ok (by omega) (by omega)) (dk dd_L_law_2 44 rfl) sk1 (sm_c set0 (sm_c set1 (sm_c set2 (sm_c set3 (sm_c set4 (sm_c set5 (sm_c set6 (sm_c set7 (sm_c set8 (sm_c set9 (sm_c set10 (sm_c set11 (sm_c set12 (sm_c set13 (sm_c set14 (sm_c set15 (sm_c set16 (sm_c set17 (sm_c set18 (sm_c set19 (sm_c set20 sm_n))))))))))))))))))))) ?_
  refine V_bipush h (dk dd_L_law_2 45 rfl) (by decide) ?_
  refine V_icmp_ne (tgt := 323) h (dk dd_L_law_2 46 rfl) rfl (by omega) (fun c293 => ?_) (fun c293 => ?_)
  · exfalso; omega
  · refine V_aload_n h (dk dd_L_law_2 47 rfl) rfl get1 ?_
    refine V_iconst h (dk dd_L_law_2 48 rfl) ?_
    refine V_aload_n h (dk dd_L_law_2 49 rfl) rfl get0 ?_
    refine V_bipush h (dk dd_L_law_3 0 rfl) (by decide) ?_
    refine V_callSx h hSc st2 ci_L_113 pk_n rfl (m_L_cell l G _ _ _ _ (by omega) (hsc) (hLn)) rfl rfl (Nat.le_of_ble_eq_true rfl) (by decide) ⟨rfl, rfl⟩ (cs_ok (by omega) (by omega)) (dk dd_L_law_3 1 rfl) sk1 sm_n ?_
    refine V_bipush h (dk dd_L_law_3 2 rfl) (by decide) ?_
    refine V_ishr h (dk dd_L_law_3 3 rfl) ?_
    refine V_sipush h (dk dd_L_law_3 4 rfl) (by decide) ?_
    refine V_callSc h st2 ci_L_103 pk_n rfl (m_L_up l G _ _ (by first | exact cell_R hsc | exact shr_R _ _ | assumption) (by decide)) rfl rfl (Nat.le_of_ble_eq_true rfl) (by decide) ⟨rfl, rfl⟩ (cs_ok (by omega) (by omega)) (dk dd_L_law_3 5 rfl) sk1 sm_n ?_
    refine V_iadd h (dk dd_L_law_3 6 rfl) ?_
    refine V_callVc h st2 ci_L_37 (pk_c get0 (pk_c get1 (pk_c get2 (pk_c get3 (pk_c get4 (pk_c get5 (pk_c get6 (pk_c get7 (pk_c get8 (pk_c get9 (pk_c get10 (pk_c get11 (pk_c get12 (pk_c get13 (pk_c get14 (pk_c get15 (pk_c get16 (pk_c get17 (pk_c get18 (pk_c get19 (pk_c get20 pk_n))))))))))))))))))))) rfl 0 get0 (m_setThreshold_ok l G _ _ _ _ _ _ _ _ _ _ _ _ _ _ _ _ _ _ _ _ _ (by omega) (⟨by omega, by omega⟩) (by omega) (by omega)) rfl rfl rfl (by decide) (Nat.le_of_ble_eq_true rfl) ⟨rfl, rfl⟩ (cs_ok (by omega) (by omega)) (dk dd_L_law_3 7 rfl) sk1 (sm_c set0 (sm_c set1 (sm_c set2 (sm_c set3 (sm_c set4 (sm_c set5 (sm_c set6 (sm_c set7 (sm_c set8 (sm_c set9 (sm_c set10 (sm_c set11 (sm_c set12 (sm_c set13 (sm_c set14 (sm_c set15 (sm_c set16 (sm_c set17 (sm_c set18 (sm_c set19 (sm_c set20 sm_n))))))))))))))))))))) ?_
    refine V_sipush h (dk dd_L_law_3 8 rfl) (by decide) ?_
    refine V_icmp_eq (tgt := 325) h (dk dd_L_law_3 9 rfl) rfl (by omega) (fun c320 => ?_) (fun c320 => ?_)
    · exact law_B h hSc hsc hLn hEnd _ _ _ _ _ _ _ _ _ _ _ _ _ _ _ _ _ _ _ _ _ _ _ _ _ _ _ _ ⟨by omega, by omega⟩ ⟨⟨hn, by omega, by omega, hW.1.2.2.2⟩, ⟨by omega, by omega⟩, hW.2.2⟩ ⟨by decide, by decide, by decide, by decide, fun i => (show R64 0 by decide)⟩
    · exfalso; omega

set_option maxHeartbeats 8000000 in
set_option maxRecDepth 100000 in
theorem law_A {l : Launch} {G : GT} {nm : String} {K : KT} (h : Good l G RL nm cL_law 9 room_1 K) {bS Ln : Nat} {sc : Int → Int} (hSc : ScrK bS Ln sc K) (hsc : ∀ j, R32 (sc j)) (hLn : (Ln : Int) ≤ 260) (hEnd : ∀ cs : Nat × Nat, cs.1 ≤ 600000 → cs.2 ≤ 7302250 → ∀ (lv : List (Option Value)) (ws : va_W), V K cs 553 lv [.int (iZ 1)] ws) {x w hi tx sh pw aw sa sg fd fa rr lo mk ea pt lb lc eb mb pb : Nat} {ra : Int → Nat} {pn : Int} (hpn : 0 ≤ pn ∧ pn < 8) {c1 c2 : Nat} (hcs : c1 ≤ 136 ∧ c2 ≤ 5444) (k c : Int) (wa pa aa : Nat → Nat) (N L T : Nat → Int) (F : Nat → Int → Int) (f : Int → Int) (hk0 : k = 0) (hW : WallR k 10 1000 c 0 f z0) : V K (c1, c2) 94 [some (.ref bS), some (.ref x), some (.int (iZ pn)), some (.int (iZ k)), none, none, none, none, none] [] ((x, .inr (10, [.ref w, .ref hi, .ref tx, .ref sh])) :: (w, .inr (9, [.ref pw, .int (iZ 10), .int (iZ 1000)])) :: (pw, .inr (3, [.ref aw, .int (iZ k)])) :: (aw, .inl (G.2 0, 48, .inl (iF f))) :: (hi, .inr (1, [.ref sa, .int (iZ c)])) :: (sa, .inl (G.2 5, 5, .inr (.inr (.inr (.inr (arr5 wa)))))) :: ((wa 0), .inr (9, [.ref (pa 0), .int (iZ (L 0)), .int (iZ (T 0))])) :: ((pa 0), .inr (3, [.ref (aa 0), .int (iZ (N 0))])) :: ((aa 0), .inl (G.2 0, 48, .inl (iF (F 0)))) :: ((wa 1), .inr (9, [.ref (pa 1), .int (iZ (L 1)), .int (iZ (T 1))])) :: ((pa 1), .inr (3, [.ref (aa 1), .int (iZ (N 1))])) :: ((aa 1), .inl (G.2 0, 48, .inl (iF (F 1)))) :: ((wa 2), .inr (9, [.ref (pa 2), .int (iZ (L 2)), .int (iZ (T 2))])) :: ((pa 2), .inr (3, [.ref (aa 2), .int (iZ (N 2))])) :: ((aa 2), .inl (G.2 0, 48, .inl (iF (F 2)))) :: ((wa 3), .inr (9, [.ref (pa 3), .int (iZ (L 3)), .int (iZ (T 3))])) :: ((pa 3), .inr (3, [.ref (aa 3), .int (iZ (N 3))])) :: ((aa 3), .inl (G.2 0, 48, .inl (iF (F 3)))) :: ((wa 4), .inr (9, [.ref (pa 4), .int (iZ (L 4)), .int (iZ (T 4))])) :: ((pa 4), .inr (3, [.ref (aa 4), .int (iZ (N 4))])) :: ((aa 4), .inl (G.2 0, 48, .inl (iF (F 4)))) :: (tx, .inr (8, [.ref sg, .ref fd, .int (iZ 0), .int (iZ 0), .int (iZ 0), .int (iZ 0)])) :: (sg, .inl (G.2 3, 60, .inl (iF z0))) :: (fd, .inr (3, [.ref fa, .int (iZ 0)])) :: (fa, .inl (G.2 0, 48, .inl (iF z0))) :: (sh, .inr (7, [.ref rr, .ref lo, .ref mk, .ref ea, .ref pt, .int (iZ 0)])) :: (rr, .inl (G.2 4, 100, .inr (.inr (.inr (.inr (rayA ra)))))) :: (lo, .inr (2, [.ref lb, .ref lc, .int (iZ 0), .int (iZ 0), .long (lZ 0)])) :: (lb, .inl (G.2 1, 3000, .inr (.inl (lF z0)))) :: (lc, .inl (G.2 0, 600, .inl (iF z0))) :: (mk, .inr (5, [.ref mb, .int (iZ 0)])) :: (mb, .inl (G.2 1, 434, .inr (.inl (lF z0)))) :: (ea, .inr (0, [.ref eb])) :: (eb, .inl (G.2 1, 48, .inr (.inl (lF (ear0 z0 12))))) :: (pt, .inr (4, [.ref pb, .int (iZ 0)])) :: (pb, .inl (G.2 0, 201, .inl (iF z0))) :: raysW ra (fun _ => 0) (fun _ => 0) (fun _ => 0) (fun _ => 0) (fun _ => 0)) := by
  have L94 : ∀ (fu : Nat) (k c : Int) (wa pa aa : Nat → Nat) (N L T : Nat → Int) (F : Nat → Int → Int) (f : Int → Int), (0 ≤ k ∧ k ≤ pn) ∧ WallR k 10 1000 c 0 f z0 → (pn - k).toNat < fu → V K (c1, c2) 94 [some (.ref bS), some (.ref x), some (.int (iZ pn)), some (.int (iZ k)), none, none, none, none, none] [] ((x, .inr (10, [.ref w, .ref hi, .ref tx, .ref sh])) :: (w, .inr (9, [.ref pw, .int (iZ 10), .int (iZ 1000)])) :: (pw, .inr (3, [.ref aw, .int (iZ k)])) :: (aw, .inl (G.2 0, 48, .inl (iF f))) :: (hi, .inr (1, [.ref sa, .int (iZ c)])) :: (sa, .inl (G.2 5, 5, .inr (.inr (.inr (.inr (arr5 wa)))))) :: ((wa 0), .inr (9, [.ref (pa 0), .int (iZ (L 0)), .int (iZ (T 0))])) :: ((pa 0), .inr (3, [.ref (aa 0), .int (iZ (N 0))])) :: ((aa 0), .inl (G.2 0, 48, .inl (iF (F 0)))) :: ((wa 1), .inr (9, [.ref (pa 1), .int (iZ (L 1)), .int (iZ (T 1))])) :: ((pa 1), .inr (3, [.ref (aa 1), .int (iZ (N 1))])) :: ((aa 1), .inl (G.2 0, 48, .inl (iF (F 1)))) :: ((wa 2), .inr (9, [.ref (pa 2), .int (iZ (L 2)), .int (iZ (T 2))])) :: ((pa 2), .inr (3, [.ref (aa 2), .int (iZ (N 2))])) :: ((aa 2), .inl (G.2 0, 48, .inl (iF (F 2)))) :: ((wa 3), .inr (9, [.ref (pa 3), .int (iZ (L 3)), .int (iZ (T 3))])) :: ((pa 3), .inr (3, [.ref (aa 3), .int (iZ (N 3))])) :: ((aa 3), .inl (G.2 0, 48, .inl (iF (F 3)))) :: ((wa 4), .inr (9, [.ref (pa 4), .int (iZ (L 4)), .int (iZ (T 4))])) :: ((pa 4), .inr (3, [.ref (aa 4), .int (iZ (N 4))])) :: ((aa 4), .inl (G.2 0, 48, .inl (iF (F 4)))) :: (tx, .inr (8, [.ref sg, .ref fd, .int (iZ 0), .int (iZ 0), .int (iZ 0), .int (iZ 0)])) :: (sg, .inl (G.2 3, 60, .inl (iF z0))) :: (fd, .inr (3, [.ref fa, .int (iZ 0)])) :: (fa, .inl (G.2 0, 48, .inl (iF z0))) :: (sh, .inr (7, [.ref rr, .ref lo, .ref mk, .ref ea, .ref pt, .int (iZ 0)])) :: (rr, .inl (G.2 4, 100, .inr (.inr (.inr (.inr (rayA ra)))))) :: (lo, .inr (2, [.ref lb, .ref lc, .int (iZ 0), .int (iZ 0), .long (lZ 0)])) :: (lb, .inl (G.2 1, 3000, .inr (.inl (lF z0)))) :: (lc, .inl (G.2 0, 600, .inl (iF z0))) :: (mk, .inr (5, [.ref mb, .int (iZ 0)])) :: (mb, .inl (G.2 1, 434, .inr (.inl (lF z0)))) :: (ea, .inr (0, [.ref eb])) :: (eb, .inl (G.2 1, 48, .inr (.inl (lF (ear0 z0 12))))) :: (pt, .inr (4, [.ref pb, .int (iZ 0)])) :: (pb, .inl (G.2 0, 201, .inl (iF z0))) :: raysW ra (fun _ => 0) (fun _ => 0) (fun _ => 0) (fun _ => 0) (fun _ => 0)) := by
    intro fu
    induction fu with
    | zero => intro k c wa pa aa N L T F f _ hm; exact absurd hm (Nat.not_lt_zero _)
    | succ fu ih94 =>
      intro k c wa pa aa N L T F f hI94 hm94
      obtain ⟨hk, hW⟩ := hI94
      have hc := hW.2.1
      have hkc := kc_b hc
      refine V_iload_n h (dk dd_L_law_0 46 rfl) rfl get3 ?_
      refine V_iload_n h (dk dd_L_law_0 47 rfl) rfl get2 ?_
      refine V_icmp_ge (tgt := 275) h (dk dd_L_law_0 48 rfl) rfl (by omega) (fun c96 => ?_) (fun c96 => ?_)
      · have e9 : k = pn := by omega
        subst e9
        refine V_wk (lv' := [some (.ref bS), some (.ref x), some (.int (iZ k)), none, none, none, none, none, none]) (lw_s (lw_s (lw_s (lw_o (lw_s (lw_s (lw_s (lw_s (lw_s lw_n))))))))) ?_
        exact law_A2 h hSc hsc hLn hEnd _ _ _ hcs hW
      · refine V_aload_n h (dk dd_L_law_0 49 rfl) rfl get0 ?_
        refine V_iconst h (dk dd_L_law_1 0 rfl) ?_
        refine V_iload_n h (dk dd_L_law_1 1 rfl) rfl get3 ?_
        refine V_iadd h (dk dd_L_law_1 2 rfl) ?_
        refine V_callSx h hSc st2 ci_L_113 pk_n rfl (m_L_cell l G _ _ _ _ (by omega) (hsc) (hLn)) rfl rfl (Nat.le_of_ble_eq_true rfl) (by decide) ⟨rfl, rfl⟩ (cs_ok (by omega) (by omega)) (dk dd_L_law_1 3 rfl) sk1 sm_n ?_
        have hq0 := cell_R (sc := sc) (Ln := Ln) (k := 1 + k) hsc
        generalize cellF sc Ln (1 + k) = q0 at hq0 ⊢
        refine V_istore h (dk dd_L_law_1 4 rfl) (Nat.le_of_ble_eq_true rfl) rfl set4 ?_
        refine V_iload h (dk dd_L_law_1 5 rfl) get4 ?_
        refine V_iconst h (dk dd_L_law_1 6 rfl) ?_
        refine V_callSc h st2 ci_L_103 pk_n rfl (m_L_up l G _ _ (by first | exact cell_R hsc | exact shr_R _ _ | assumption) (by decide)) rfl rfl (Nat.le_of_ble_eq_true rfl) (by decide) ⟨rfl, rfl⟩ (cs_ok (by omega) (by omega)) (dk dd_L_law_1 7 rfl) sk1 sm_n ?_
        have hkd := up_R q0 (show (0 : Int) < 5 by decide)
        generalize upF q0 5 = kd at hkd ⊢
        refine V_istore h (dk dd_L_law_1 8 rfl) (Nat.le_of_ble_eq_true rfl) rfl set5 ?_
        have J164 : ∀ (nb : Int), leastF kd ≤ nb ∧ nb ≤ mostF kd → V K (c1, c2) 164 [some (.ref bS), some (.ref x), some (.int (iZ pn)), some (.int (iZ k)), some (.int (iZ q0)), some (.int (iZ kd)), none, none, none] [.int (iZ nb)] ((x, .inr (10, [.ref w, .ref hi, .ref tx, .ref sh])) :: (w, .inr (9, [.ref pw, .int (iZ 10), .int (iZ 1000)])) :: (pw, .inr (3, [.ref aw, .int (iZ k)])) :: (aw, .inl (G.2 0, 48, .inl (iF f))) :: (hi, .inr (1, [.ref sa, .int (iZ c)])) :: (sa, .inl (G.2 5, 5, .inr (.inr (.inr (.inr (arr5 wa)))))) :: ((wa 0), .inr (9, [.ref (pa 0), .int (iZ (L 0)), .int (iZ (T 0))])) :: ((pa 0), .inr (3, [.ref (aa 0), .int (iZ (N 0))])) :: ((aa 0), .inl (G.2 0, 48, .inl (iF (F 0)))) :: ((wa 1), .inr (9, [.ref (pa 1), .int (iZ (L 1)), .int (iZ (T 1))])) :: ((pa 1), .inr (3, [.ref (aa 1), .int (iZ (N 1))])) :: ((aa 1), .inl (G.2 0, 48, .inl (iF (F 1)))) :: ((wa 2), .inr (9, [.ref (pa 2), .int (iZ (L 2)), .int (iZ (T 2))])) :: ((pa 2), .inr (3, [.ref (aa 2), .int (iZ (N 2))])) :: ((aa 2), .inl (G.2 0, 48, .inl (iF (F 2)))) :: ((wa 3), .inr (9, [.ref (pa 3), .int (iZ (L 3)), .int (iZ (T 3))])) :: ((pa 3), .inr (3, [.ref (aa 3), .int (iZ (N 3))])) :: ((aa 3), .inl (G.2 0, 48, .inl (iF (F 3)))) :: ((wa 4), .inr (9, [.ref (pa 4), .int (iZ (L 4)), .int (iZ (T 4))])) :: ((pa 4), .inr (3, [.ref (aa 4), .int (iZ (N 4))])) :: ((aa 4), .inl (G.2 0, 48, .inl (iF (F 4)))) :: (tx, .inr (8, [.ref sg, .ref fd, .int (iZ 0), .int (iZ 0), .int (iZ 0), .int (iZ 0)])) :: (sg, .inl (G.2 3, 60, .inl (iF z0))) :: (fd, .inr (3, [.ref fa, .int (iZ 0)])) :: (fa, .inl (G.2 0, 48, .inl (iF z0))) :: (sh, .inr (7, [.ref rr, .ref lo, .ref mk, .ref ea, .ref pt, .int (iZ 0)])) :: (rr, .inl (G.2 4, 100, .inr (.inr (.inr (.inr (rayA ra)))))) :: (lo, .inr (2, [.ref lb, .ref lc, .int (iZ 0), .int (iZ 0), .long (lZ 0)])) :: (lb, .inl (G.2 1, 3000, .inr (.inl (lF z0)))) :: (lc, .inl (G.2 0, 600, .inl (iF z0))) :: (mk, .inr (5, [.ref mb, .int (iZ 0)])) :: (mb, .inl (G.2 1, 434, .inr (.inl (lF z0)))) :: (ea, .inr (0, [.ref eb])) :: (eb, .inl (G.2 1, 48, .inr (.inl (lF (ear0 z0 12))))) :: (pt, .inr (4, [.ref pb, .int (iZ 0)])) :: (pb, .inl (G.2 0, 201, .inl (iF z0))) :: raysW ra (fun _ => 0) (fun _ => 0) (fun _ => 0) (fun _ => 0) (fun _ => 0)) := by
          intro nb hJ164
          have hnb := hJ164
          have l1 := least_R kd
          have l2 := most_R kd
          refine V_istore h (dk dd_L_law_1 32 rfl) (Nat.le_of_ble_eq_true rfl) rfl set6 ?_
          refine V_aload_n h (dk dd_L_law_1 33 rfl) rfl get1 ?_
          refine V_callVc h st1 ci_L_9 (pk_c get0 (pk_c get1 (pk_c get2 (pk_c get3 (pk_c get25 (pk_c get27 (pk_c get28 (pk_c get29 (pk_c get30 (pk_c get31 (pk_c get32 (pk_c get33 pk_n)))))))))))) rfl 0 get0 (m_X11_fingerprint l G _ _ _ _ _ _ _ _ _ _ _ _ _ _ _ _ _ _ _ _ _ _ _ _ _ _ _ _ _ (by omega) (WallR_f hW) (by omega) (by omega) (by omega) (by omega) (by omega)) rfl rfl rfl (by decide) (Nat.le_of_ble_eq_true rfl) ⟨rfl, rfl⟩ (cs_ok (by omega) (by omega)) (dk dd_L_law_1 34 rfl) sk1 (sm_c set0 (sm_c set1 (sm_c set2 (sm_c set3 (sm_c set25 (sm_c set27 (sm_c set28 (sm_c set29 (sm_c set30 (sm_c set31 (sm_c set32 (sm_c set33 sm_n)))))))))))) ?_
          refine V_lstore h (dk dd_L_law_1 35 rfl) (Nat.le_of_ble_eq_true rfl) rfl set7 set8 ?_
          refine V_aload_n h (dk dd_L_law_1 36 rfl) rfl get1 ?_
          refine V_iload h (dk dd_L_law_1 37 rfl) get5 ?_
          refine V_iload h (dk dd_L_law_1 38 rfl) get4 ?_
          refine V_bipush h (dk dd_L_law_1 39 rfl) (by decide) ?_
          refine V_ishr h (dk dd_L_law_1 40 rfl) ?_
          refine V_sipush h (dk dd_L_law_1 41 rfl) (by decide) ?_
          refine V_callSc h st2 ci_L_103 pk_n rfl (m_L_up l G _ _ (by first | exact cell_R hsc | exact shr_R _ _ | assumption) (by decide)) rfl rfl (Nat.le_of_ble_eq_true rfl) (by decide) ⟨rfl, rfl⟩ (cs_ok (by omega) (by omega)) (dk dd_L_law_1 42 rfl) sk1 sm_n ?_
          refine V_iconst h (dk dd_L_law_1 43 rfl) ?_
          refine V_aload_n h (dk dd_L_law_1 44 rfl) rfl get0 ?_
          refine V_bipush h (dk dd_L_law_1 45 rfl) (by decide) ?_
          refine V_iload_n h (dk dd_L_law_1 46 rfl) rfl get3 ?_
          refine V_iadd h (dk dd_L_law_1 47 rfl) ?_
          refine V_callSx h hSc st2 ci_L_113 pk_n rfl (m_L_cell l G _ _ _ _ (by omega) (hsc) (hLn)) rfl rfl (Nat.le_of_ble_eq_true rfl) (by decide) ⟨rfl, rfl⟩ (cs_ok (by omega) (by omega)) (dk dd_L_law_1 48 rfl) sk1 sm_n ?_
          refine V_sipush h (dk dd_L_law_1 49 rfl) (by decide) ?_
          refine V_callSc h st2 ci_L_103 pk_n rfl (m_L_up l G _ _ (by first | exact cell_R hsc | exact shr_R _ _ | assumption) (by decide)) rfl rfl (Nat.le_of_ble_eq_true rfl) (by decide) ⟨rfl, rfl⟩ (cs_ok (by omega) (by omega)) (dk dd_L_law_2 0 rfl) sk1 sm_n ?_
          refine V_iadd h (dk dd_L_law_2 1 rfl) ?_
          refine V_iload h (dk dd_L_law_2 2 rfl) get6 ?_
          have v1 := up_R (shrZ q0 8) (show (0 : Int) < 27720 by decide)
          generalize upF (shrZ q0 8) 27720 = fs at v1 ⊢
          have v2a := up_R (cellF sc Ln (9 + k)) (show (0 : Int) < 27720 by decide)
          have v2 : 1 ≤ 1 + upF (cellF sc Ln (9 + k)) 27720 ∧ 1 + upF (cellF sc Ln (9 + k)) 27720 ≤ 27720 := by omega
          generalize 1 + upF (cellF sc Ln (9 + k)) 27720 = mn at v2 ⊢
          refine V_callVc h st5 ci_L_15 (pk_c get0 (pk_c get1 (pk_c get2 (pk_c get3 (pk_c get4 (pk_c get5 (pk_c get6 (pk_c get7 (pk_c get8 (pk_c get9 (pk_c get10 (pk_c get11 (pk_c get12 (pk_c get13 (pk_c get14 (pk_c get15 (pk_c get16 (pk_c get17 (pk_c get18 (pk_c get19 (pk_c get20 pk_n))))))))))))))))))))) rfl 0 get0 (m_add_ok l G _ _ _ _ _ _ _ _ _ _ _ _ _ _ _ _ _ _ _ _ _ _ _ _ (by omega) (hc) (by omega) (by omega) (by omega) (by omega) (⟨⟨by omega, by omega⟩, v1, v2, hnb⟩) (by omega)) rfl rfl rfl (by decide) (Nat.le_of_ble_eq_true rfl) ⟨rfl, rfl⟩ (cs_ok (by omega) (by omega)) (dk dd_L_law_2 3 rfl) sk1 (sm_c set0 (sm_c set1 (sm_c set2 (sm_c set3 (sm_c set4 (sm_c set5 (sm_c set6 (sm_c set7 (sm_c set8 (sm_c set9 (sm_c set10 (sm_c set11 (sm_c set12 (sm_c set13 (sm_c set14 (sm_c set15 (sm_c set16 (sm_c set17 (sm_c set18 (sm_c set19 (sm_c set20 sm_n))))))))))))))))))))) ?_
          refine V_iload_n h (dk dd_L_law_2 4 rfl) rfl get3 ?_
          refine V_icmp_ne (tgt := 267) h (dk dd_L_law_2 5 rfl) rfl (by omega) (fun c208 => ?_) (fun c208 => ?_)
          · exfalso; omega
          · refine V_aload_n h (dk dd_L_law_2 6 rfl) rfl get1 ?_
            refine V_callVc h st1 ci_L_106 (pk_c get0 (pk_c get1 (pk_c get2 (pk_c get3 (pk_c get4 (pk_c get5 (pk_c get6 (pk_c get7 (pk_c get8 (pk_c get9 (pk_c get10 (pk_c get11 (pk_c get12 (pk_c get13 (pk_c get14 (pk_c get15 (pk_c get16 (pk_c get17 (pk_c get18 (pk_c get19 (pk_c get20 pk_n))))))))))))))))))))) rfl 0 get0 (m_undo_ok l G _ _ _ _ _ _ _ _ _ _ _ _ _ _ _ _ _ _ _ _ (⟨by omega, by omega⟩) (by rw [kp_top hc]; omega)) rfl rfl rfl (by decide) (Nat.le_of_ble_eq_true rfl) ⟨rfl, rfl⟩ (cs_ok (by omega) (by omega)) (dk dd_L_law_2 7 rfl) sk1 (sm_c set0 (sm_c set1 (sm_c set2 (sm_c set3 (sm_c set4 (sm_c set5 (sm_c set6 (sm_c set7 (sm_c set8 (sm_c set9 (sm_c set10 (sm_c set11 (sm_c set12 (sm_c set13 (sm_c set14 (sm_c set15 (sm_c set16 (sm_c set17 (sm_c set18 (sm_c set19 (sm_c set20 sm_n))))))))))))))))))))) ?_
            simp only [kp_top hc]
            have hE : EqB (k * 4) (cpyF (cpyF f (oldF F c) 0 0 (k * 4)) (appF f k kd fs mn nb) 0 0 (k * 4)) f := cpy_EqB.tr cpy_EqB
            generalize cpyF (cpyF f (oldF F c) 0 0 (k * 4)) (appF f k kd fs mn nb) 0 0 (k * 4) = f1 at hE ⊢
            refine V_if_lt (tgt := 267) h (dk dd_L_law_2 8 rfl) rfl (by omega) (fun c215 => ?_) (fun c215 => ?_)
            · exfalso; omega
            · refine V_aload_n h (dk dd_L_law_2 9 rfl) rfl get1 ?_
              refine V_callVc h st1 ci_L_9 (pk_c get0 (pk_c get1 (pk_c get2 (pk_c get3 (pk_c get25 (pk_c get27 (pk_c get28 (pk_c get29 (pk_c get30 (pk_c get31 (pk_c get32 (pk_c get33 pk_n)))))))))))) rfl 0 get0 (m_X11_fingerprint l G _ _ _ _ _ _ _ _ _ _ _ _ _ _ _ _ _ _ _ _ _ _ _ _ _ _ _ _ _ (by omega) (fun j a b => by rw [hE j a b]; exact WallR_f hW j a b) (by omega) (by omega) (by omega) (by omega) (by omega)) rfl rfl rfl (by decide) (Nat.le_of_ble_eq_true rfl) ⟨rfl, rfl⟩ (cs_ok (by omega) (by omega)) (dk dd_L_law_2 10 rfl) sk1 (sm_c set0 (sm_c set1 (sm_c set2 (sm_c set3 (sm_c set25 (sm_c set27 (sm_c set28 (sm_c set29 (sm_c set30 (sm_c set31 (sm_c set32 (sm_c set33 sm_n)))))))))))) ?_
              refine V_lload h (dk dd_L_law_2 11 rfl) get7 ?_
              rw [fp_wall hE]
              refine V_lcmp_same h (dk dd_L_law_2 12 rfl) ?_
              refine V_if_ne (tgt := 267) h (dk dd_L_law_2 13 rfl) rfl (by omega) (fun c225 => ?_) (fun c225 => ?_)
              · exfalso; omega
              · refine V_aload_n h (dk dd_L_law_2 14 rfl) rfl get1 ?_
                refine V_iload h (dk dd_L_law_2 15 rfl) get5 ?_
                refine V_iload h (dk dd_L_law_2 16 rfl) get4 ?_
                refine V_bipush h (dk dd_L_law_2 17 rfl) (by decide) ?_
                refine V_ishr h (dk dd_L_law_2 18 rfl) ?_
                refine V_sipush h (dk dd_L_law_2 19 rfl) (by decide) ?_
                refine V_callSc h st2 ci_L_103 pk_n rfl (m_L_up l G _ _ (by first | exact cell_R hsc | exact shr_R _ _ | assumption) (by decide)) rfl rfl (Nat.le_of_ble_eq_true rfl) (by decide) ⟨rfl, rfl⟩ (cs_ok (by omega) (by omega)) (dk dd_L_law_2 20 rfl) sk1 sm_n ?_
                refine V_iconst h (dk dd_L_law_2 21 rfl) ?_
                refine V_aload_n h (dk dd_L_law_2 22 rfl) rfl get0 ?_
                refine V_bipush h (dk dd_L_law_2 23 rfl) (by decide) ?_
                refine V_iload_n h (dk dd_L_law_2 24 rfl) rfl get3 ?_
                refine V_iadd h (dk dd_L_law_2 25 rfl) ?_
                refine V_callSx h hSc st2 ci_L_113 pk_n rfl (m_L_cell l G _ _ _ _ (by omega) (hsc) (hLn)) rfl rfl (Nat.le_of_ble_eq_true rfl) (by decide) ⟨rfl, rfl⟩ (cs_ok (by omega) (by omega)) (dk dd_L_law_2 26 rfl) sk1 sm_n ?_
                refine V_sipush h (dk dd_L_law_2 27 rfl) (by decide) ?_
                refine V_callSc h st2 ci_L_103 pk_n rfl (m_L_up l G _ _ (by first | exact cell_R hsc | exact shr_R _ _ | assumption) (by decide)) rfl rfl (Nat.le_of_ble_eq_true rfl) (by decide) ⟨rfl, rfl⟩ (cs_ok (by omega) (by omega)) (dk dd_L_law_2 28 rfl) sk1 sm_n ?_
                refine V_iadd h (dk dd_L_law_2 29 rfl) ?_
                refine V_iload h (dk dd_L_law_2 30 rfl) get6 ?_
                have v3 := up_R (shrZ q0 8) (show (0 : Int) < 27720 by decide)
                generalize upF (shrZ q0 8) 27720 = fs2 at v3 ⊢
                have v4a := up_R (cellF sc Ln (9 + k)) (show (0 : Int) < 27720 by decide)
                have v4 : 1 ≤ 1 + upF (cellF sc Ln (9 + k)) 27720 ∧ 1 + upF (cellF sc Ln (9 + k)) 27720 ≤ 27720 := by omega
                generalize 1 + upF (cellF sc Ln (9 + k)) 27720 = mn2 at v4 ⊢
                have hkc2 := kc_b (c := kc c - 1) ⟨by omega, by omega⟩
                refine V_callVc h st5 ci_L_15 (pk_c get0 (pk_c get1 (pk_c get2 (pk_c get3 (pk_c get4 (pk_c get5 (pk_c get6 (pk_c get7 (pk_c get8 (pk_c get9 (pk_c get10 (pk_c get11 (pk_c get12 (pk_c get13 (pk_c get14 (pk_c get15 (pk_c get16 (pk_c get17 (pk_c get18 (pk_c get19 (pk_c get20 pk_n))))))))))))))))))))) rfl 0 get0 (m_add_ok l G _ _ _ _ _ _ _ _ _ _ _ _ _ _ _ _ _ _ _ _ _ _ _ _ (by omega) (⟨by omega, by omega⟩) (by omega) (by omega) (by omega) (by omega) (⟨⟨by omega, by omega⟩, v3, v4, hnb⟩) (by omega)) rfl rfl rfl (by decide) (Nat.le_of_ble_eq_true rfl) ⟨rfl, rfl⟩ (cs_ok (by omega) (by omega)) (dk dd_L_law_2 31 rfl) sk1 (sm_c set0 (sm_c set1 (sm_c set2 (sm_c set3 (sm_c set4 (sm_c set5 (sm_c set6 (sm_c set7 (sm_c set8 (sm_c set9 (sm_c set10 (sm_c set11 (sm_c set12 (sm_c set13 (sm_c set14 (sm_c set15 (sm_c set16 (sm_c set17 (sm_c set18 (sm_c set19 (sm_c set20 sm_n))))))))))))))))))))) ?_
                refine V_iload_n h (dk dd_L_law_2 32 rfl) rfl get3 ?_
                refine V_icmp_eq (tgt := 269) h (dk dd_L_law_2 33 rfl) rfl (by omega) (fun c264 => ?_) (fun c264 => ?_)
                · refine V_iinc h (dk dd_L_law_2 36 rfl) get3 (Nat.le_of_ble_eq_true rfl) rfl set3 ?_
                  refine V_goto (tgt := 94) h (dk dd_L_law_2 37 rfl) rfl ?_
                  refine V_wk (lw_s (lw_s (lw_s (lw_s (lw_o (lw_o (lw_o (lw_o (lw_s lw_n))))))))) ?_
                  exact ih94 _ _ _ _ _ _ _ _ _ _ ⟨by omega, ⟨⟨by omega, by decide, by decide, app_OK (Eq_OK hE hW.1.2.2.2) ⟨⟨by omega, by omega⟩, v3, v4, hnb⟩⟩, ⟨by omega, by omega⟩, hW.2.2⟩⟩ (by omega)
                · exfalso; omega
        refine V_iload h (dk dd_L_law_1 9 rfl) get5 ?_
        refine V_if_ne (tgt := 134) h (dk dd_L_law_1 10 rfl) rfl (by omega) (fun c118 => ?_) (fun c118 => ?_)
        · refine V_iload h (dk dd_L_law_1 17 rfl) get5 ?_
          refine V_iconst h (dk dd_L_law_1 18 rfl) ?_
          refine V_icmp_eq (tgt := 146) h (dk dd_L_law_1 19 rfl) rfl (by omega) (fun c137 => ?_) (fun c137 => ?_)
          · refine V_iconst h (dk dd_L_law_1 23 rfl) ?_
            refine V_goto (tgt := 164) h (dk dd_L_law_1 24 rfl) rfl ?_
            exact J164 _ (by unfold leastF mostF; constructor <;> (repeat' split) <;> omega)
          · refine V_iload h (dk dd_L_law_1 20 rfl) get5 ?_
            refine V_iconst h (dk dd_L_law_1 21 rfl) ?_
            refine V_icmp_ne (tgt := 150) h (dk dd_L_law_1 22 rfl) rfl (by omega) (fun c143 => ?_) (fun c143 => ?_)
            · refine V_iload h (dk dd_L_law_1 25 rfl) get4 ?_
              refine V_iconst h (dk dd_L_law_1 26 rfl) ?_
              refine V_ishr h (dk dd_L_law_1 27 rfl) ?_
              refine V_sipush h (dk dd_L_law_1 28 rfl) (by decide) ?_
              refine V_callSc h st2 ci_L_103 pk_n rfl (m_L_up l G _ _ (by first | exact cell_R hsc | exact shr_R _ _ | assumption) (by decide)) rfl rfl (Nat.le_of_ble_eq_true rfl) (by decide) ⟨rfl, rfl⟩ (cs_ok (by omega) (by omega)) (dk dd_L_law_1 29 rfl) sk1 sm_n ?_
              have w2 := up_R (shrZ q0 3) (show (0 : Int) < 4001 by decide)
              refine V_sipush h (dk dd_L_law_1 30 rfl) (by decide) ?_
              refine V_isub h (dk dd_L_law_1 31 rfl) ?_
              exact J164 _ (by unfold leastF mostF; constructor <;> (repeat' split) <;> omega)
            · refine V_iconst h (dk dd_L_law_1 23 rfl) ?_
              refine V_goto (tgt := 164) h (dk dd_L_law_1 24 rfl) rfl ?_
              exact J164 _ (by unfold leastF mostF; constructor <;> (repeat' split) <;> omega)
        · refine V_iload h (dk dd_L_law_1 11 rfl) get4 ?_
          refine V_iconst h (dk dd_L_law_1 12 rfl) ?_
          refine V_ishr h (dk dd_L_law_1 13 rfl) ?_
          refine V_sipush h (dk dd_L_law_1 14 rfl) (by decide) ?_
          refine V_callSc h st2 ci_L_103 pk_n rfl (m_L_up l G _ _ (by first | exact cell_R hsc | exact shr_R _ _ | assumption) (by decide)) rfl rfl (Nat.le_of_ble_eq_true rfl) (by decide) ⟨rfl, rfl⟩ (cs_ok (by omega) (by omega)) (dk dd_L_law_1 15 rfl) sk1 sm_n ?_
          have w1 := up_R (shrZ q0 3) (show (0 : Int) < 300 by decide)
          refine V_goto (tgt := 164) h (dk dd_L_law_1 16 rfl) rfl ?_
          exact J164 _ (by unfold leastF mostF; constructor <;> (repeat' split) <;> omega)
  exact L94 _ _ _ _ _ _ _ _ _ _ _ ⟨by omega, hW⟩ (Nat.lt_succ_self _)

