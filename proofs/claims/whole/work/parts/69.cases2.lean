/-! the law: its cases, more -/
set_option maxHeartbeats 8000000 in
set_option maxRecDepth 100000 in
theorem lc_8 {l : Launch} {G : GT} {ad : AdT} {nm : String} {K : KT} {cs : Nat × Nat} (h : Good l G RL nm cL_law 8 room_1 K) (hSt : StrK ad K) {bS Ln : Nat} {sc : Int → Int} (hSc : ScrK bS Ln sc K) (hsc : ∀ j, R32 (sc j)) (hcs : cs.1 ≤ room_1.cells ∧ cs.2 ≤ room_1.slots) {x w hi tx sh pw aw sa sg fd fa rr lo mk ea pt lb lc eb mb pb y : Nat} {q : Nat → Nat} {ra : Int → Nat} (i : Int) (hix : 0 ≤ i ∧ i + 4 < (Ln : Int) ∧ (Ln : Int) ≤ 2560) (hk : LB K cs G bS i x w hi tx sh pw aw sa sg fd fa rr lo mk ea pt lb lc eb mb pb y q ra) (wa pa aa : Nat → Nat) (N L T : Nat → Int) (F : Nat → Int → Int) (c n lo2 z ln a b o fc m nh ec es cm pc be ap fo wr sb : Int) (f ch g P S E T2 U Nn Ec A wd Cn vv pp kd nb Tm ie my su fi mo ish ends : Int → Int) (hR : REL wa pa aa N L T F c n lo2 z ln a b o fc m nh ec es cm pc be ap fo wr sb f ch g P S E T2 U Nn Ec A wd Cn vv pp kd nb Tm ie my su fi mo ish ends) : V K cs 360 [some (.ref bS), some (.ref x), some (.ref y), some (.int (iZ i)), none, none, none, none] [] (WD G x w hi tx sh pw aw sa sg fd fa rr lo mk ea pt lb lc eb mb pb y q ra wa pa aa N L T F c n lo2 z ln a b o fc m nh ec es cm pc be ap fo wr sb f ch g P S E T2 U Nn Ec A wd Cn vv pp kd nb Tm ie my su fi mo ish ends) := by
  obtain ⟨hW, hH, hC, hS⟩ := hR
  obtain ⟨w0, w1, w2, w3, w4, w5⟩ := WR_n hW
  have hC1 := hC.1
  have hH1 := hH.1
  obtain ⟨s1, s2, s3, s4, s5, s6, s7, s8, s9, s10, s11, s12, s13, s14, s15, s16, s17⟩ := hS
  have hS : SHR m nh ec es cm pc be Nn Ec wd A Cn ie my su fi mo := ⟨s1, s2, s3, s4, s5, s6, s7, s8, s9, s10, s11, s12, s13, s14, s15, s16, s17⟩
  have z1 := hsc (i + 1)
  have z2 := hsc (i + 2)
  have z3 := hsc (i + 3)
  have z4 := hsc (i + 4)
  have hres := read_eq (ch := ch) (g := g) (kd := kd) (nb := nb) (len := ln) hC
  obtain ⟨r1, r2, r3, r4, r5⟩ := hres
  have hEb := errX_b (ch := ch) (g := g) (len := ln)
  rcases (show 0 ≤ (wrI ch ln 61 (0, 0, -1, kd, nb)).1 ∨ ((wrI ch ln 61 (0, 0, -1, kd, nb)).1 < 0 ∧ 12 < n + (errX ch ln g).2.1) ∨ ((wrI ch ln 61 (0, 0, -1, kd, nb)).1 < 0 ∧ n + (errX ch ln g).2.1 ≤ 12) by omega) with hA | ⟨hA, h12⟩ | ⟨hA, h12⟩
  · refine V_aload_n h (dk dd_L_law_3 28 rfl) rfl get1 ?_
    refine V_callVsc h hSt st1 ci_L_49 (pk_c get0 (pk_c get1 (pk_c get2 (pk_c get3 (pk_c get4 (pk_c get5 (pk_c get6 (pk_c get7 (pk_c get8 (pk_c get9 (pk_c get10 (pk_c get11 (pk_c get12 (pk_c get13 (pk_c get14 (pk_c get15 (pk_c get16 (pk_c get17 (pk_c get18 (pk_c get19 (pk_c get20 (pk_c get21 (pk_c get22 (pk_c get23 (pk_c get24 pk_n))))))))))))))))))))))))) rfl 0 get0 (m_read_bad l G ad _ _ _ _ _ _ _ _ _ _ _ _ _ _ _ _ _ _ _ _ _ _ _ _ _ _ _ _ _ _ (by omega) (by omega) (hC) (by omega) (by omega) (by omega)) rfl rfl rfl (by decide) (Nat.le_of_ble_eq_true rfl) ⟨rfl, rfl⟩ hcs (dk dd_L_law_3 29 rfl) sk1 (sm_c set0 (sm_c set1 (sm_c set2 (sm_c set3 (sm_c set4 (sm_c set5 (sm_c set6 (sm_c set7 (sm_c set8 (sm_c set9 (sm_c set10 (sm_c set11 (sm_c set12 (sm_c set13 (sm_c set14 (sm_c set15 (sm_c set16 (sm_c set17 (sm_c set18 (sm_c set19 (sm_c set20 (sm_c set21 (sm_c set22 (sm_c set23 (sm_c set24 sm_n))))))))))))))))))))))))) ?_
    refine V_aload_n h (dk dd_L_law_3 30 rfl) rfl get2 ?_
    refine V_callVc h st1 ci_L_52 (pk_c get36 (pk_c get37 (pk_c get38 (pk_c get39 (pk_c get40 (pk_c get41 pk_n)))))) rfl 36 get36 (m_mread_bad l G _ _ _ _ _ _ _ _ _ _ _ _ _ _ _ _ (hC) (by omega) (by omega) (by omega) (by omega) (by omega)) rfl rfl rfl (by decide) (Nat.le_of_ble_eq_true rfl) ⟨rfl, rfl⟩ hcs (dk dd_L_law_3 31 rfl) sk1 (sm_c set36 (sm_c set37 (sm_c set38 (sm_c set39 (sm_c set40 (sm_c set41 sm_n)))))) ?_
    rw [r1]
    refine V_icmp_same (tgt := 810) h (dk dd_L_law_3 32 rfl) rfl ?_
    exact hk _ _ _ _ _ _ _ _ _ _ _ _ _ _ _ _ _ _ _ _ _ _ _ _ _ _ _ _ _ _ _ _ _ _ _ _ _ _ _ _ _ _ _ _ _ _ _ _ _ _ _ _ ⟨hW, hH, hC, hS⟩
  · obtain ⟨r6, r7⟩ := r5 hA
    refine V_aload_n h (dk dd_L_law_3 28 rfl) rfl get1 ?_
    refine V_callVsc h hSt st1 ci_L_49 (pk_c get0 (pk_c get1 (pk_c get2 (pk_c get3 (pk_c get4 (pk_c get5 (pk_c get6 (pk_c get7 (pk_c get8 (pk_c get9 (pk_c get10 (pk_c get11 (pk_c get12 (pk_c get13 (pk_c get14 (pk_c get15 (pk_c get16 (pk_c get17 (pk_c get18 (pk_c get19 (pk_c get20 (pk_c get21 (pk_c get22 (pk_c get23 (pk_c get24 pk_n))))))))))))))))))))))))) rfl 0 get0 (m_read_full l G ad _ _ _ _ _ _ _ _ _ _ _ _ _ _ _ _ _ _ _ _ _ _ _ _ _ _ _ _ _ _ (by omega) (by omega) (hC) (by omega) (by omega) (by omega) (by omega)) rfl rfl rfl (by decide) (Nat.le_of_ble_eq_true rfl) ⟨rfl, rfl⟩ hcs (dk dd_L_law_3 29 rfl) sk1 (sm_c set0 (sm_c set1 (sm_c set2 (sm_c set3 (sm_c set4 (sm_c set5 (sm_c set6 (sm_c set7 (sm_c set8 (sm_c set9 (sm_c set10 (sm_c set11 (sm_c set12 (sm_c set13 (sm_c set14 (sm_c set15 (sm_c set16 (sm_c set17 (sm_c set18 (sm_c set19 (sm_c set20 (sm_c set21 (sm_c set22 (sm_c set23 (sm_c set24 sm_n))))))))))))))))))))))))) ?_
    refine V_aload_n h (dk dd_L_law_3 30 rfl) rfl get2 ?_
    refine V_callVc h st1 ci_L_52 (pk_c get36 (pk_c get37 (pk_c get38 (pk_c get39 (pk_c get40 (pk_c get41 pk_n)))))) rfl 36 get36 (m_mread_full l G _ _ _ _ _ _ _ _ _ _ _ _ _ _ _ _ (hC) (by omega) (by omega) (by omega) (by omega) (by omega) (by omega)) rfl rfl rfl (by decide) (Nat.le_of_ble_eq_true rfl) ⟨rfl, rfl⟩ hcs (dk dd_L_law_3 31 rfl) sk1 (sm_c set36 (sm_c set37 (sm_c set38 (sm_c set39 (sm_c set40 (sm_c set41 sm_n)))))) ?_
    refine V_icmp_same (tgt := 810) h (dk dd_L_law_3 32 rfl) rfl ?_
    exact hk _ _ _ _ _ _ _ _ _ _ _ _ _ _ _ _ _ _ _ _ _ _ _ _ _ _ _ _ _ _ _ _ _ _ _ _ _ _ _ _ _ _ _ _ _ _ _ _ _ _ _ _ ⟨hW, hH, hC, hS⟩
  · obtain ⟨r6, r7⟩ := r5 hA
    have e9 : (((wrI ch ln 61 (0, 0, -1, kd, nb)).2.2.1.toNat : Nat) : Int) = (wrI ch ln 61 (0, 0, -1, kd, nb)).2.2.1 := by omega
    have hWR := WR_read (F := (errX ch ln g).2.2) hW (wrI ch ln 61 (0, 0, -1, kd, nb)).2.2.1.toNat (by omega) (by rw [e9]; exact r7)
    rw [e9, ← r6] at hWR
    refine V_aload_n h (dk dd_L_law_3 28 rfl) rfl get1 ?_
    refine V_callVsc h hSt st1 ci_L_49 (pk_c get0 (pk_c get1 (pk_c get2 (pk_c get3 (pk_c get4 (pk_c get5 (pk_c get6 (pk_c get7 (pk_c get8 (pk_c get9 (pk_c get10 (pk_c get11 (pk_c get12 (pk_c get13 (pk_c get14 (pk_c get15 (pk_c get16 (pk_c get17 (pk_c get18 (pk_c get19 (pk_c get20 (pk_c get21 (pk_c get22 (pk_c get23 (pk_c get24 pk_n))))))))))))))))))))))))) rfl 0 get0 (m_read_ok l G ad _ _ _ _ _ _ _ _ _ _ _ _ _ _ _ _ _ _ _ _ _ _ _ _ _ _ _ _ _ _ (by omega) (by omega) (hC) (by omega) (by omega) (by omega) (by omega)) rfl rfl rfl (by decide) (Nat.le_of_ble_eq_true rfl) ⟨rfl, rfl⟩ hcs (dk dd_L_law_3 29 rfl) sk1 (sm_c set0 (sm_c set1 (sm_c set2 (sm_c set3 (sm_c set4 (sm_c set5 (sm_c set6 (sm_c set7 (sm_c set8 (sm_c set9 (sm_c set10 (sm_c set11 (sm_c set12 (sm_c set13 (sm_c set14 (sm_c set15 (sm_c set16 (sm_c set17 (sm_c set18 (sm_c set19 (sm_c set20 (sm_c set21 (sm_c set22 (sm_c set23 (sm_c set24 sm_n))))))))))))))))))))))))) ?_
    refine V_aload_n h (dk dd_L_law_3 30 rfl) rfl get2 ?_
    refine V_callVc h st1 ci_L_52 (pk_c get36 (pk_c get37 (pk_c get38 (pk_c get39 (pk_c get40 (pk_c get41 pk_n)))))) rfl 36 get36 (m_mread_ok l G _ _ _ _ _ _ _ _ _ _ _ _ _ _ _ _ (hC) (by omega) (by omega) (by omega) (by omega) (by omega) (by omega)) rfl rfl rfl (by decide) (Nat.le_of_ble_eq_true rfl) ⟨rfl, rfl⟩ hcs (dk dd_L_law_3 31 rfl) sk1 (sm_c set36 (sm_c set37 (sm_c set38 (sm_c set39 (sm_c set40 (sm_c set41 sm_n)))))) ?_
    rw [← r6]
    rw [show aM c + 1 = kc c from kc_eq hH1]
    refine V_icmp_same (tgt := 810) h (dk dd_L_law_3 32 rfl) rfl ?_
    exact hk _ _ _ _ _ _ _ _ _ _ _ _ _ _ _ _ _ _ _ _ _ _ _ _ _ _ _ _ _ _ _ _ _ _ _ _ _ _ _ _ _ _ _ _ _ _ _ _ _ _ _ _ ⟨hWR, HR_keep hH hW, clear_ok, hS⟩

set_option maxHeartbeats 8000000 in
set_option maxRecDepth 100000 in
theorem lc_9 {l : Launch} {G : GT} {ad : AdT} {nm : String} {K : KT} {cs : Nat × Nat} (h : Good l G RL nm cL_law 8 room_1 K) (hSt : StrK ad K) {bS Ln : Nat} {sc : Int → Int} (hSc : ScrK bS Ln sc K) (hsc : ∀ j, R32 (sc j)) (hcs : cs.1 ≤ room_1.cells ∧ cs.2 ≤ room_1.slots) {x w hi tx sh pw aw sa sg fd fa rr lo mk ea pt lb lc eb mb pb y : Nat} {q : Nat → Nat} {ra : Int → Nat} (i : Int) (hix : 0 ≤ i ∧ i + 4 < (Ln : Int) ∧ (Ln : Int) ≤ 2560) (hk : LB K cs G bS i x w hi tx sh pw aw sa sg fd fa rr lo mk ea pt lb lc eb mb pb y q ra) (wa pa aa : Nat → Nat) (N L T : Nat → Int) (F : Nat → Int → Int) (c n lo2 z ln a b o fc m nh ec es cm pc be ap fo wr sb : Int) (f ch g P S E T2 U Nn Ec A wd Cn vv pp kd nb Tm ie my su fi mo ish ends : Int → Int) (hR : REL wa pa aa N L T F c n lo2 z ln a b o fc m nh ec es cm pc be ap fo wr sb f ch g P S E T2 U Nn Ec A wd Cn vv pp kd nb Tm ie my su fi mo ish ends) : V K cs 373 [some (.ref bS), some (.ref x), some (.ref y), some (.int (iZ i)), none, none, none, none] [] (WD G x w hi tx sh pw aw sa sg fd fa rr lo mk ea pt lb lc eb mb pb y q ra wa pa aa N L T F c n lo2 z ln a b o fc m nh ec es cm pc be ap fo wr sb f ch g P S E T2 U Nn Ec A wd Cn vv pp kd nb Tm ie my su fi mo ish ends) := by
  obtain ⟨hW, hH, hC, hS⟩ := hR
  obtain ⟨w0, w1, w2, w3, w4, w5⟩ := WR_n hW
  have hC1 := hC.1
  have hH1 := hH.1
  obtain ⟨s1, s2, s3, s4, s5, s6, s7, s8, s9, s10, s11, s12, s13, s14, s15, s16, s17⟩ := hS
  have hS : SHR m nh ec es cm pc be Nn Ec wd A Cn ie my su fi mo := ⟨s1, s2, s3, s4, s5, s6, s7, s8, s9, s10, s11, s12, s13, s14, s15, s16, s17⟩
  have z1 := hsc (i + 1)
  have z2 := hsc (i + 2)
  have z3 := hsc (i + 3)
  have z4 := hsc (i + 4)
  by_cases hA : (0 ≤ (sc (i + 1)) ∧ (sc (i + 1)) < 27720) ∧ ((sc (i + 2)) ≠ 0 ∧ -13859 ≤ (sc (i + 2)) ∧ (sc (i + 2)) ≤ 13859) ∧ 1 ≤ (sc (i + 3)) ∧ (sc (i + 3)) ≤ 1000000
  · have hWv := WR_ok hW
    have hcg : (itX z lo2 n f 600 (ini0 (sc (i + 1)) (sc (i + 2)) (sc (i + 3)) (((m, P, S, E, T2, U), A, ec, Ec), (nh, es, Nn), (cm, wd), pc, Cn))) = itX (vv 2) (vv 1) (vv 0) (vF vv) 600 (ini0 (sc (i + 1)) (sc (i + 2)) (sc (i + 3)) (((m, P, S, E, T2, U), A, ec, Ec), (nh, es, Nn), (cm, wd), pc, Cn)) := by
      rw [w0, w1, w2]
      exact itX_congr w3.1 hW.2.2.2.1 600 _
    have hF0 : FR 0 (sc (i + 1)) (ini0 (sc (i + 1)) (sc (i + 2)) (sc (i + 3)) (((m, P, S, E, T2, U), A, ec, Ec), (nh, es, Nn), (cm, wd), pc, Cn)) (iniM (sc (i + 1)) (sc (i + 2)) (sc (i + 3)) (((m, P, S, E, Tm, U), (ie, my, su, fi, mo)), nh, Nn)) := ini_FR (ec2 := Ec) hA.1 s4
    have hF := it_FR hWv hF0 600 (Nat.le_refl _)
    obtain ⟨hq, hq1, hM⟩ := it_FM hWv (iniM_I hA.1 hA.2.1 hA.2.2 : FM 0 (iniM (sc (i + 1)) (sc (i + 2)) (sc (i + 3)) (((m, P, S, E, Tm, U), (ie, my, su, fi, mo)), nh, Nn))) 600
    have hZ := itM_Z (thr := vv 2) (lo := vv 1) (n := vv 0) (f := vF vv) (y := (iniM (sc (i + 1)) (sc (i + 2)) (sc (i + 3)) (((m, P, S, E, Tm, U), (ie, my, su, fi, mo)), nh, Nn))) s12 600
    rw [← hcg] at hF
    have hSS := SHR_s hF hM hq1 hZ hA.1
    obtain ⟨hh, hh1, e1, e2, ⟨⟨u1, u2, u3, u4, u5⟩, -⟩, e4, -⟩ := hF
    have e12 : (itM (vv 2) (vv 1) (vv 0) (vF vv) 600 (iniM (sc (i + 1)) (sc (i + 2)) (sc (i + 3)) (((m, P, S, E, Tm, U), (ie, my, su, fi, mo)), nh, Nn))).2.1 = (itX z lo2 n f 600 (ini0 (sc (i + 1)) (sc (i + 2)) (sc (i + 3)) (((m, P, S, E, T2, U), A, ec, Ec), (nh, es, Nn), (cm, wd), pc, Cn))).2.1.1 := by rw [e1, e2]
    refine V_aload_n h (dk dd_L_law_3 35 rfl) rfl get1 ?_
    refine V_aload_n h (dk dd_L_law_3 36 rfl) rfl get0 ?_
    refine V_iload_n h (dk dd_L_law_3 37 rfl) rfl get3 ?_
    refine V_iconst h (dk dd_L_law_3 38 rfl) ?_
    refine V_iadd h (dk dd_L_law_3 39 rfl) ?_
    refine V_sld h hSc (by omega) (dk dd_L_law_3 40 rfl) ?_
    refine V_aload_n h (dk dd_L_law_3 41 rfl) rfl get0 ?_
    refine V_iload_n h (dk dd_L_law_3 42 rfl) rfl get3 ?_
    refine V_iconst h (dk dd_L_law_3 43 rfl) ?_
    refine V_iadd h (dk dd_L_law_3 44 rfl) ?_
    refine V_sld h hSc (by omega) (dk dd_L_law_3 45 rfl) ?_
    refine V_aload_n h (dk dd_L_law_3 46 rfl) rfl get0 ?_
    refine V_iload_n h (dk dd_L_law_3 47 rfl) rfl get3 ?_
    refine V_iconst h (dk dd_L_law_3 48 rfl) ?_
    refine V_iadd h (dk dd_L_law_3 49 rfl) ?_
    refine V_sld h hSc (by omega) (dk dd_L_law_4 0 rfl) ?_
    refine V_callVc h st4 ci_L_53 (pk_c get0 (pk_c get25 (pk_c get26 (pk_c get27 (pk_c get28 (pk_c get29 (pk_c get30 (pk_c get31 (pk_c get32 (pk_c get33 (pk_c get34 (pk_c get35 (pk_c get1 (pk_c get2 (pk_c get3 pt55))))))))))))))) (by decide +kernel) 0 get0 (m_shoot_ok l G _ _ _ _ _ _ _ _ _ _ _ _ _ _ _ _ _ _ _ _ _ _ _ _ _ _ _ _ _ _ _ _ _ _ _ _ _ _ _ _ _ (by omega) (by omega) (by omega) (hA) (hW.2.2.2.2) (s4)) rfl rfl rfl (by decide) (Nat.le_of_ble_eq_true rfl) ⟨rfl, rfl⟩ hcs (dk dd_L_law_4 1 rfl) sk1 (sm_c set0 (sm_c set25 (sm_c set26 (sm_c set27 (sm_c set28 (sm_c set29 (sm_c set30 (sm_c set31 (sm_c set32 (sm_c set33 (sm_c set34 (sm_c set35 (sm_c set1 (sm_c set2 (sm_c set3 stl55))))))))))))))) ?_
    refine V_aload_n h (dk dd_L_law_4 2 rfl) rfl get2 ?_
    refine V_aload_n h (dk dd_L_law_4 3 rfl) rfl get0 ?_
    refine V_iload_n h (dk dd_L_law_4 4 rfl) rfl get3 ?_
    refine V_iconst h (dk dd_L_law_4 5 rfl) ?_
    refine V_iadd h (dk dd_L_law_4 6 rfl) ?_
    refine V_sld h hSc (by omega) (dk dd_L_law_4 7 rfl) ?_
    refine V_aload_n h (dk dd_L_law_4 8 rfl) rfl get0 ?_
    refine V_iload_n h (dk dd_L_law_4 9 rfl) rfl get3 ?_
    refine V_iconst h (dk dd_L_law_4 10 rfl) ?_
    refine V_iadd h (dk dd_L_law_4 11 rfl) ?_
    refine V_sld h hSc (by omega) (dk dd_L_law_4 12 rfl) ?_
    refine V_aload_n h (dk dd_L_law_4 13 rfl) rfl get0 ?_
    refine V_iload_n h (dk dd_L_law_4 14 rfl) rfl get3 ?_
    refine V_iconst h (dk dd_L_law_4 15 rfl) ?_
    refine V_iadd h (dk dd_L_law_4 16 rfl) ?_
    refine V_sld h hSc (by omega) (dk dd_L_law_4 17 rfl) ?_
    refine V_callVc h st4 ci_L_57 (pk_c get36 (pk_c get37 (pk_c get42 (pk_c get43 (pk_c get44 (pk_c get45 (pk_c get46 (pk_c get47 (pk_c get48 (pk_c get49 (pk_c get50 (pk_c get51 (pk_c get52 pk_n))))))))))))) rfl 36 get36 (m_mshoot_ok l G _ _ _ _ _ _ _ _ _ _ _ _ _ _ _ _ _ _ _ _ _ _ _ _ _ _ (by omega) (by omega) (by omega) (hA) (hWv)) rfl rfl rfl (by decide) (Nat.le_of_ble_eq_true rfl) ⟨rfl, rfl⟩ hcs (dk dd_L_law_4 18 rfl) sk1 (sm_c set36 (sm_c set37 (sm_c set42 (sm_c set43 (sm_c set44 (sm_c set45 (sm_c set46 (sm_c set47 (sm_c set48 (sm_c set49 (sm_c set50 (sm_c set51 (sm_c set52 sm_n))))))))))))) ?_
    rw [e12]
    rw [← u1]
    rw [← u2]
    rw [← u3]
    rw [← u4]
    rw [← u5]
    rw [← e4]
    refine V_icmp_same (tgt := 810) h (dk dd_L_law_4 19 rfl) rfl ?_
    exact hk _ _ _ _ _ _ _ _ _ _ _ _ _ _ _ _ _ _ _ _ _ _ _ _ _ _ _ _ _ _ _ _ _ _ _ _ _ _ _ _ _ _ _ _ _ _ _ _ _ _ _ _ ⟨hW, hH, hC, hSS⟩
  · refine V_aload_n h (dk dd_L_law_3 35 rfl) rfl get1 ?_
    refine V_aload_n h (dk dd_L_law_3 36 rfl) rfl get0 ?_
    refine V_iload_n h (dk dd_L_law_3 37 rfl) rfl get3 ?_
    refine V_iconst h (dk dd_L_law_3 38 rfl) ?_
    refine V_iadd h (dk dd_L_law_3 39 rfl) ?_
    refine V_sld h hSc (by omega) (dk dd_L_law_3 40 rfl) ?_
    refine V_aload_n h (dk dd_L_law_3 41 rfl) rfl get0 ?_
    refine V_iload_n h (dk dd_L_law_3 42 rfl) rfl get3 ?_
    refine V_iconst h (dk dd_L_law_3 43 rfl) ?_
    refine V_iadd h (dk dd_L_law_3 44 rfl) ?_
    refine V_sld h hSc (by omega) (dk dd_L_law_3 45 rfl) ?_
    refine V_aload_n h (dk dd_L_law_3 46 rfl) rfl get0 ?_
    refine V_iload_n h (dk dd_L_law_3 47 rfl) rfl get3 ?_
    refine V_iconst h (dk dd_L_law_3 48 rfl) ?_
    refine V_iadd h (dk dd_L_law_3 49 rfl) ?_
    refine V_sld h hSc (by omega) (dk dd_L_law_4 0 rfl) ?_
    refine V_callVc h st4 ci_L_53 pk_n rfl 0 get0 (m_shoot_bad l G _ 0 0 0 0 _ _ _ (by omega) (by omega) (by omega) (hA)) rfl rfl rfl (by decide) (Nat.le_of_ble_eq_true rfl) ⟨rfl, rfl⟩ hcs (dk dd_L_law_4 1 rfl) sk1 sm_n ?_
    refine V_aload_n h (dk dd_L_law_4 2 rfl) rfl get2 ?_
    refine V_aload_n h (dk dd_L_law_4 3 rfl) rfl get0 ?_
    refine V_iload_n h (dk dd_L_law_4 4 rfl) rfl get3 ?_
    refine V_iconst h (dk dd_L_law_4 5 rfl) ?_
    refine V_iadd h (dk dd_L_law_4 6 rfl) ?_
    refine V_sld h hSc (by omega) (dk dd_L_law_4 7 rfl) ?_
    refine V_aload_n h (dk dd_L_law_4 8 rfl) rfl get0 ?_
    refine V_iload_n h (dk dd_L_law_4 9 rfl) rfl get3 ?_
    refine V_iconst h (dk dd_L_law_4 10 rfl) ?_
    refine V_iadd h (dk dd_L_law_4 11 rfl) ?_
    refine V_sld h hSc (by omega) (dk dd_L_law_4 12 rfl) ?_
    refine V_aload_n h (dk dd_L_law_4 13 rfl) rfl get0 ?_
    refine V_iload_n h (dk dd_L_law_4 14 rfl) rfl get3 ?_
    refine V_iconst h (dk dd_L_law_4 15 rfl) ?_
    refine V_iadd h (dk dd_L_law_4 16 rfl) ?_
    refine V_sld h hSc (by omega) (dk dd_L_law_4 17 rfl) ?_
    refine V_callVc h st4 ci_L_57 (pk_c get36 pk_n) rfl 36 get36 (m_mshoot_bad l G _ _ _ _ _ _ _ _ _ _ _ _ _ _ (by omega) (by omega) (by omega) (hA)) rfl rfl rfl (by decide) (Nat.le_of_ble_eq_true rfl) ⟨rfl, rfl⟩ hcs (dk dd_L_law_4 18 rfl) sk1 (sm_c set36 sm_n) ?_
    refine V_icmp_same (tgt := 810) h (dk dd_L_law_4 19 rfl) rfl ?_
    exact hk _ _ _ _ _ _ _ _ _ _ _ _ _ _ _ _ _ _ _ _ _ _ _ _ _ _ _ _ _ _ _ _ _ _ _ _ _ _ _ _ _ _ _ _ _ _ _ _ _ _ _ _ ⟨hW, hH, hC, hS⟩

