/-! the law: its cases -/
set_option maxHeartbeats 8000000 in
set_option maxRecDepth 100000 in
theorem lc_0 {l : Launch} {G : GT} {ad : AdT} {nm : String} {K : KT} {cs : Nat × Nat} (h : Good l G RL nm cL_law 8 room_1 K) (hSt : StrK ad K) {bS Ln : Nat} {sc : Int → Int} (hSc : ScrK bS Ln sc K) (hsc : ∀ j, R32 (sc j)) (hcs : cs.1 ≤ room_1.cells ∧ cs.2 ≤ room_1.slots) {x w hi tx sh pw aw sa sg fd fa rr lo mk ea pt lb lc eb mb pb y : Nat} {q : Nat → Nat} {ra : Int → Nat} (i : Int) (hix : 0 ≤ i ∧ i + 4 < (Ln : Int) ∧ (Ln : Int) ≤ 2560) (hk : LB K cs G bS i x w hi tx sh pw aw sa sg fd fa rr lo mk ea pt lb lc eb mb pb y q ra) (wa pa aa : Nat → Nat) (N L T : Nat → Int) (F : Nat → Int → Int) (c n lo2 z ln a b o fc m nh ec es cm pc be ap fo wr sb : Int) (f ch g P S E T2 U Nn Ec A wd Cn vv pp kd nb Tm ie my su fi mo ish ends : Int → Int) (hR : REL wa pa aa N L T F c n lo2 z ln a b o fc m nh ec es cm pc be ap fo wr sb f ch g P S E T2 U Nn Ec A wd Cn vv pp kd nb Tm ie my su fi mo ish ends) : V K cs 156 [some (.ref bS), some (.ref x), some (.ref y), some (.int (iZ i)), none, none, none, none] [] (WD G x w hi tx sh pw aw sa sg fd fa rr lo mk ea pt lb lc eb mb pb y q ra wa pa aa N L T F c n lo2 z ln a b o fc m nh ec es cm pc be ap fo wr sb f ch g P S E T2 U Nn Ec A wd Cn vv pp kd nb Tm ie my su fi mo ish ends) := by
  obtain ⟨hW, hH, hC, hS⟩ := hR
  obtain ⟨w0, w1, w2, w3, w4, w5⟩ := WR_n hW
  have hC1 := hC.1
  have hH1 := hH.1
  obtain ⟨s1, s2, s3, s4, s5, s6, s7, s8, s9, s10, s11, s12, s13, s14, s15, s16, s17⟩ := hS
  have hS : SHR m nh ec es cm pc be Nn Ec wd A Cn ie my su fi mo := ⟨s1, s2, s3, s4, s5, s6, s7, s8, s9, s10, s11, s12, s13, s14, s15, s16, s17⟩
  have z1 := hsc (i + 1)
  have z2 := hsc (i + 2)
  have z3 := hsc (i + 3)
  have z4 := hsc (i + 4)
  rcases (show ¬ allowP (sc (i + 1)) (sc (i + 2)) (sc (i + 3)) (sc (i + 4)) ∨ (allowP (sc (i + 1)) (sc (i + 2)) (sc (i + 3)) (sc (i + 4)) ∧ n = 12) ∨ (allowP (sc (i + 1)) (sc (i + 2)) (sc (i + 3)) (sc (i + 4)) ∧ n < 12) by by_cases hA : allowP (sc (i + 1)) (sc (i + 2)) (sc (i + 3)) (sc (i + 4)) <;> omega) with hA | ⟨hA, h12⟩ | ⟨hA, h12⟩
  · refine V_aload_n h (dk dd_L_law_0 22 rfl) rfl get1 ?_
    refine V_aload_n h (dk dd_L_law_0 23 rfl) rfl get0 ?_
    refine V_iload_n h (dk dd_L_law_0 24 rfl) rfl get3 ?_
    refine V_iconst h (dk dd_L_law_0 25 rfl) ?_
    refine V_iadd h (dk dd_L_law_0 26 rfl) ?_
    refine V_sld h hSc (by omega) (dk dd_L_law_0 27 rfl) ?_
    refine V_aload_n h (dk dd_L_law_0 28 rfl) rfl get0 ?_
    refine V_iload_n h (dk dd_L_law_0 29 rfl) rfl get3 ?_
    refine V_iconst h (dk dd_L_law_0 30 rfl) ?_
    refine V_iadd h (dk dd_L_law_0 31 rfl) ?_
    refine V_sld h hSc (by omega) (dk dd_L_law_0 32 rfl) ?_
    refine V_aload_n h (dk dd_L_law_0 33 rfl) rfl get0 ?_
    refine V_iload_n h (dk dd_L_law_0 34 rfl) rfl get3 ?_
    refine V_iconst h (dk dd_L_law_0 35 rfl) ?_
    refine V_iadd h (dk dd_L_law_0 36 rfl) ?_
    refine V_sld h hSc (by omega) (dk dd_L_law_0 37 rfl) ?_
    refine V_aload_n h (dk dd_L_law_0 38 rfl) rfl get0 ?_
    refine V_iload_n h (dk dd_L_law_0 39 rfl) rfl get3 ?_
    refine V_iconst h (dk dd_L_law_0 40 rfl) ?_
    refine V_iadd h (dk dd_L_law_0 41 rfl) ?_
    refine V_sld h hSc (by omega) (dk dd_L_law_0 42 rfl) ?_
    refine V_callVc h st5 ci_L_13 (pk_c get0 (pk_c get1 (pk_c get2 (pk_c get3 (pk_c get4 (pk_c get5 (pk_c get6 (pk_c get7 (pk_c get8 (pk_c get9 (pk_c get10 (pk_c get11 (pk_c get12 (pk_c get13 (pk_c get14 (pk_c get15 (pk_c get16 (pk_c get17 (pk_c get18 (pk_c get19 (pk_c get20 pk_n))))))))))))))))))))) rfl 0 get0 (m_add_bad l G _ _ _ _ _ _ _ _ _ _ _ _ _ _ _ _ _ _ _ _ _ _ _ _ (by omega) (by omega) (by omega) (by omega) (by omega) (by omega) (hA)) rfl rfl rfl (by decide) (Nat.le_of_ble_eq_true rfl) ⟨rfl, rfl⟩ hcs (dk dd_L_law_0 43 rfl) sk1 (sm_c set0 (sm_c set1 (sm_c set2 (sm_c set3 (sm_c set4 (sm_c set5 (sm_c set6 (sm_c set7 (sm_c set8 (sm_c set9 (sm_c set10 (sm_c set11 (sm_c set12 (sm_c set13 (sm_c set14 (sm_c set15 (sm_c set16 (sm_c set17 (sm_c set18 (sm_c set19 (sm_c set20 sm_n))))))))))))))))))))) ?_
    refine V_aload_n h (dk dd_L_law_0 44 rfl) rfl get2 ?_
    refine V_aload_n h (dk dd_L_law_0 45 rfl) rfl get0 ?_
    refine V_iload_n h (dk dd_L_law_0 46 rfl) rfl get3 ?_
    refine V_iconst h (dk dd_L_law_0 47 rfl) ?_
    refine V_iadd h (dk dd_L_law_0 48 rfl) ?_
    refine V_sld h hSc (by omega) (dk dd_L_law_0 49 rfl) ?_
    refine V_aload_n h (dk dd_L_law_1 0 rfl) rfl get0 ?_
    refine V_iload_n h (dk dd_L_law_1 1 rfl) rfl get3 ?_
    refine V_iconst h (dk dd_L_law_1 2 rfl) ?_
    refine V_iadd h (dk dd_L_law_1 3 rfl) ?_
    refine V_sld h hSc (by omega) (dk dd_L_law_1 4 rfl) ?_
    refine V_aload_n h (dk dd_L_law_1 5 rfl) rfl get0 ?_
    refine V_iload_n h (dk dd_L_law_1 6 rfl) rfl get3 ?_
    refine V_iconst h (dk dd_L_law_1 7 rfl) ?_
    refine V_iadd h (dk dd_L_law_1 8 rfl) ?_
    refine V_sld h hSc (by omega) (dk dd_L_law_1 9 rfl) ?_
    refine V_aload_n h (dk dd_L_law_1 10 rfl) rfl get0 ?_
    refine V_iload_n h (dk dd_L_law_1 11 rfl) rfl get3 ?_
    refine V_iconst h (dk dd_L_law_1 12 rfl) ?_
    refine V_iadd h (dk dd_L_law_1 13 rfl) ?_
    refine V_sld h hSc (by omega) (dk dd_L_law_1 14 rfl) ?_
    refine V_callVc h st5 ci_L_17 (pk_c get36 (pk_c get38 (pk_c get37 pk_n))) rfl 36 get36 (m_madd_bad l G _ _ _ _ _ _ _ _ _ _ _ _ _ _ _ _ _ (by omega) (by omega) (by omega) (by omega) (by omega) (by omega) (hA)) rfl rfl rfl (by decide) (Nat.le_of_ble_eq_true rfl) ⟨rfl, rfl⟩ hcs (dk dd_L_law_1 15 rfl) sk1 (sm_c set36 (sm_c set38 (sm_c set37 sm_n))) ?_
    refine V_icmp_same (tgt := 810) h (dk dd_L_law_1 16 rfl) rfl ?_
    exact hk _ _ _ _ _ _ _ _ _ _ _ _ _ _ _ _ _ _ _ _ _ _ _ _ _ _ _ _ _ _ _ _ _ _ _ _ _ _ _ _ _ _ _ _ _ _ _ _ _ _ _ _ ⟨hW, hH, hC, hS⟩
  · refine V_aload_n h (dk dd_L_law_0 22 rfl) rfl get1 ?_
    refine V_aload_n h (dk dd_L_law_0 23 rfl) rfl get0 ?_
    refine V_iload_n h (dk dd_L_law_0 24 rfl) rfl get3 ?_
    refine V_iconst h (dk dd_L_law_0 25 rfl) ?_
    refine V_iadd h (dk dd_L_law_0 26 rfl) ?_
    refine V_sld h hSc (by omega) (dk dd_L_law_0 27 rfl) ?_
    refine V_aload_n h (dk dd_L_law_0 28 rfl) rfl get0 ?_
    refine V_iload_n h (dk dd_L_law_0 29 rfl) rfl get3 ?_
    refine V_iconst h (dk dd_L_law_0 30 rfl) ?_
    refine V_iadd h (dk dd_L_law_0 31 rfl) ?_
    refine V_sld h hSc (by omega) (dk dd_L_law_0 32 rfl) ?_
    refine V_aload_n h (dk dd_L_law_0 33 rfl) rfl get0 ?_
    refine V_iload_n h (dk dd_L_law_0 34 rfl) rfl get3 ?_
    refine V_iconst h (dk dd_L_law_0 35 rfl) ?_
    refine V_iadd h (dk dd_L_law_0 36 rfl) ?_
    refine V_sld h hSc (by omega) (dk dd_L_law_0 37 rfl) ?_
    refine V_aload_n h (dk dd_L_law_0 38 rfl) rfl get0 ?_
    refine V_iload_n h (dk dd_L_law_0 39 rfl) rfl get3 ?_
    refine V_iconst h (dk dd_L_law_0 40 rfl) ?_
    refine V_iadd h (dk dd_L_law_0 41 rfl) ?_
    refine V_sld h hSc (by omega) (dk dd_L_law_0 42 rfl) ?_
    refine V_callVc h st5 ci_L_13 (pk_c get0 (pk_c get1 (pk_c get2 (pk_c get3 (pk_c get4 (pk_c get5 (pk_c get6 (pk_c get7 (pk_c get8 (pk_c get9 (pk_c get10 (pk_c get11 (pk_c get12 (pk_c get13 (pk_c get14 (pk_c get15 (pk_c get16 (pk_c get17 (pk_c get18 (pk_c get19 (pk_c get20 pk_n))))))))))))))))))))) rfl 0 get0 (m_add_full l G _ _ _ _ _ _ _ _ _ _ _ _ _ _ _ _ _ _ _ _ _ _ _ _ (by omega) (by omega) (by omega) (by omega) (by omega) (by omega) (hA) (by omega)) rfl rfl rfl (by decide) (Nat.le_of_ble_eq_true rfl) ⟨rfl, rfl⟩ hcs (dk dd_L_law_0 43 rfl) sk1 (sm_c set0 (sm_c set1 (sm_c set2 (sm_c set3 (sm_c set4 (sm_c set5 (sm_c set6 (sm_c set7 (sm_c set8 (sm_c set9 (sm_c set10 (sm_c set11 (sm_c set12 (sm_c set13 (sm_c set14 (sm_c set15 (sm_c set16 (sm_c set17 (sm_c set18 (sm_c set19 (sm_c set20 sm_n))))))))))))))))))))) ?_
    refine V_aload_n h (dk dd_L_law_0 44 rfl) rfl get2 ?_
    refine V_aload_n h (dk dd_L_law_0 45 rfl) rfl get0 ?_
    refine V_iload_n h (dk dd_L_law_0 46 rfl) rfl get3 ?_
    refine V_iconst h (dk dd_L_law_0 47 rfl) ?_
    refine V_iadd h (dk dd_L_law_0 48 rfl) ?_
    refine V_sld h hSc (by omega) (dk dd_L_law_0 49 rfl) ?_
    refine V_aload_n h (dk dd_L_law_1 0 rfl) rfl get0 ?_
    refine V_iload_n h (dk dd_L_law_1 1 rfl) rfl get3 ?_
    refine V_iconst h (dk dd_L_law_1 2 rfl) ?_
    refine V_iadd h (dk dd_L_law_1 3 rfl) ?_
    refine V_sld h hSc (by omega) (dk dd_L_law_1 4 rfl) ?_
    refine V_aload_n h (dk dd_L_law_1 5 rfl) rfl get0 ?_
    refine V_iload_n h (dk dd_L_law_1 6 rfl) rfl get3 ?_
    refine V_iconst h (dk dd_L_law_1 7 rfl) ?_
    refine V_iadd h (dk dd_L_law_1 8 rfl) ?_
    refine V_sld h hSc (by omega) (dk dd_L_law_1 9 rfl) ?_
    refine V_aload_n h (dk dd_L_law_1 10 rfl) rfl get0 ?_
    refine V_iload_n h (dk dd_L_law_1 11 rfl) rfl get3 ?_
    refine V_iconst h (dk dd_L_law_1 12 rfl) ?_
    refine V_iadd h (dk dd_L_law_1 13 rfl) ?_
    refine V_sld h hSc (by omega) (dk dd_L_law_1 14 rfl) ?_
    refine V_callVc h st5 ci_L_17 (pk_c get36 (pk_c get38 (pk_c get37 pk_n))) rfl 36 get36 (m_madd_full l G _ _ _ _ _ _ _ _ _ _ _ _ _ _ _ _ _ (by omega) (by omega) (by omega) (by omega) (by omega) (by omega) (hA) (by omega)) rfl rfl rfl (by decide) (Nat.le_of_ble_eq_true rfl) ⟨rfl, rfl⟩ hcs (dk dd_L_law_1 15 rfl) sk1 (sm_c set36 (sm_c set38 (sm_c set37 sm_n))) ?_
    refine V_icmp_same (tgt := 810) h (dk dd_L_law_1 16 rfl) rfl ?_
    exact hk _ _ _ _ _ _ _ _ _ _ _ _ _ _ _ _ _ _ _ _ _ _ _ _ _ _ _ _ _ _ _ _ _ _ _ _ _ _ _ _ _ _ _ _ _ _ _ _ _ _ _ _ ⟨hW, hH, hC, hS⟩
  · refine V_aload_n h (dk dd_L_law_0 22 rfl) rfl get1 ?_
    refine V_aload_n h (dk dd_L_law_0 23 rfl) rfl get0 ?_
    refine V_iload_n h (dk dd_L_law_0 24 rfl) rfl get3 ?_
    refine V_iconst h (dk dd_L_law_0 25 rfl) ?_
    refine V_iadd h (dk dd_L_law_0 26 rfl) ?_
    refine V_sld h hSc (by omega) (dk dd_L_law_0 27 rfl) ?_
    refine V_aload_n h (dk dd_L_law_0 28 rfl) rfl get0 ?_
    refine V_iload_n h (dk dd_L_law_0 29 rfl) rfl get3 ?_
    refine V_iconst h (dk dd_L_law_0 30 rfl) ?_
    refine V_iadd h (dk dd_L_law_0 31 rfl) ?_
    refine V_sld h hSc (by omega) (dk dd_L_law_0 32 rfl) ?_
    refine V_aload_n h (dk dd_L_law_0 33 rfl) rfl get0 ?_
    refine V_iload_n h (dk dd_L_law_0 34 rfl) rfl get3 ?_
    refine V_iconst h (dk dd_L_law_0 35 rfl) ?_
    refine V_iadd h (dk dd_L_law_0 36 rfl) ?_
    refine V_sld h hSc (by omega) (dk dd_L_law_0 37 rfl) ?_
    refine V_aload_n h (dk dd_L_law_0 38 rfl) rfl get0 ?_
    refine V_iload_n h (dk dd_L_law_0 39 rfl) rfl get3 ?_
    refine V_iconst h (dk dd_L_law_0 40 rfl) ?_
    refine V_iadd h (dk dd_L_law_0 41 rfl) ?_
    refine V_sld h hSc (by omega) (dk dd_L_law_0 42 rfl) ?_
    refine V_callVc h st5 ci_L_13 (pk_c get0 (pk_c get1 (pk_c get2 (pk_c get3 (pk_c get4 (pk_c get5 (pk_c get6 (pk_c get7 (pk_c get8 (pk_c get9 (pk_c get10 (pk_c get11 (pk_c get12 (pk_c get13 (pk_c get14 (pk_c get15 (pk_c get16 (pk_c get17 (pk_c get18 (pk_c get19 (pk_c get20 pk_n))))))))))))))))))))) rfl 0 get0 (m_add_ok l G _ _ _ _ _ _ _ _ _ _ _ _ _ _ _ _ _ _ _ _ _ _ _ _ (by omega) (by omega) (by omega) (by omega) (by omega) (by omega) (hA) (by omega)) rfl rfl rfl (by decide) (Nat.le_of_ble_eq_true rfl) ⟨rfl, rfl⟩ hcs (dk dd_L_law_0 43 rfl) sk1 (sm_c set0 (sm_c set1 (sm_c set2 (sm_c set3 (sm_c set4 (sm_c set5 (sm_c set6 (sm_c set7 (sm_c set8 (sm_c set9 (sm_c set10 (sm_c set11 (sm_c set12 (sm_c set13 (sm_c set14 (sm_c set15 (sm_c set16 (sm_c set17 (sm_c set18 (sm_c set19 (sm_c set20 sm_n))))))))))))))))))))) ?_
    refine V_aload_n h (dk dd_L_law_0 44 rfl) rfl get2 ?_
    refine V_aload_n h (dk dd_L_law_0 45 rfl) rfl get0 ?_
    refine V_iload_n h (dk dd_L_law_0 46 rfl) rfl get3 ?_
    refine V_iconst h (dk dd_L_law_0 47 rfl) ?_
    refine V_iadd h (dk dd_L_law_0 48 rfl) ?_
    refine V_sld h hSc (by omega) (dk dd_L_law_0 49 rfl) ?_
    refine V_aload_n h (dk dd_L_law_1 0 rfl) rfl get0 ?_
    refine V_iload_n h (dk dd_L_law_1 1 rfl) rfl get3 ?_
    refine V_iconst h (dk dd_L_law_1 2 rfl) ?_
    refine V_iadd h (dk dd_L_law_1 3 rfl) ?_
    refine V_sld h hSc (by omega) (dk dd_L_law_1 4 rfl) ?_
    refine V_aload_n h (dk dd_L_law_1 5 rfl) rfl get0 ?_
    refine V_iload_n h (dk dd_L_law_1 6 rfl) rfl get3 ?_
    refine V_iconst h (dk dd_L_law_1 7 rfl) ?_
    refine V_iadd h (dk dd_L_law_1 8 rfl) ?_
    refine V_sld h hSc (by omega) (dk dd_L_law_1 9 rfl) ?_
    refine V_aload_n h (dk dd_L_law_1 10 rfl) rfl get0 ?_
    refine V_iload_n h (dk dd_L_law_1 11 rfl) rfl get3 ?_
    refine V_iconst h (dk dd_L_law_1 12 rfl) ?_
    refine V_iadd h (dk dd_L_law_1 13 rfl) ?_
    refine V_sld h hSc (by omega) (dk dd_L_law_1 14 rfl) ?_
    refine V_callVc h st5 ci_L_17 (pk_c get36 (pk_c get38 (pk_c get37 pk_n))) rfl 36 get36 (m_madd_ok l G _ _ _ _ _ _ _ _ _ _ _ _ _ _ _ _ _ (by omega) (by omega) (by omega) (by omega) (by omega) (by omega) (hA) (by omega)) rfl rfl rfl (by decide) (Nat.le_of_ble_eq_true rfl) ⟨rfl, rfl⟩ hcs (dk dd_L_law_1 15 rfl) sk1 (sm_c set36 (sm_c set38 (sm_c set37 sm_n))) ?_
    rw [w0]
    rw [show aM c + 1 = kc c from kc_eq hH1]
    refine V_icmp_same (tgt := 810) h (dk dd_L_law_1 16 rfl) rfl ?_
    exact hk _ _ _ _ _ _ _ _ _ _ _ _ _ _ _ _ _ _ _ _ _ _ _ _ _ _ _ _ _ _ _ _ _ _ _ _ _ _ _ _ _ _ _ _ _ _ _ _ _ _ _ _ ⟨WR_add hW hA h12, HR_keep hH hW, hC, hS⟩

set_option maxHeartbeats 8000000 in
set_option maxRecDepth 100000 in
theorem lc_1 {l : Launch} {G : GT} {ad : AdT} {nm : String} {K : KT} {cs : Nat × Nat} (h : Good l G RL nm cL_law 8 room_1 K) (hSt : StrK ad K) {bS Ln : Nat} {sc : Int → Int} (hSc : ScrK bS Ln sc K) (hsc : ∀ j, R32 (sc j)) (hcs : cs.1 ≤ room_1.cells ∧ cs.2 ≤ room_1.slots) {x w hi tx sh pw aw sa sg fd fa rr lo mk ea pt lb lc eb mb pb y : Nat} {q : Nat → Nat} {ra : Int → Nat} (i : Int) (hix : 0 ≤ i ∧ i + 4 < (Ln : Int) ∧ (Ln : Int) ≤ 2560) (hk : LB K cs G bS i x w hi tx sh pw aw sa sg fd fa rr lo mk ea pt lb lc eb mb pb y q ra) (wa pa aa : Nat → Nat) (N L T : Nat → Int) (F : Nat → Int → Int) (c n lo2 z ln a b o fc m nh ec es cm pc be ap fo wr sb : Int) (f ch g P S E T2 U Nn Ec A wd Cn vv pp kd nb Tm ie my su fi mo ish ends : Int → Int) (hR : REL wa pa aa N L T F c n lo2 z ln a b o fc m nh ec es cm pc be ap fo wr sb f ch g P S E T2 U Nn Ec A wd Cn vv pp kd nb Tm ie my su fi mo ish ends) : V K cs 209 [some (.ref bS), some (.ref x), some (.ref y), some (.int (iZ i)), none, none, none, none] [] (WD G x w hi tx sh pw aw sa sg fd fa rr lo mk ea pt lb lc eb mb pb y q ra wa pa aa N L T F c n lo2 z ln a b o fc m nh ec es cm pc be ap fo wr sb f ch g P S E T2 U Nn Ec A wd Cn vv pp kd nb Tm ie my su fi mo ish ends) := by
  obtain ⟨hW, hH, hC, hS⟩ := hR
  obtain ⟨w0, w1, w2, w3, w4, w5⟩ := WR_n hW
  have hC1 := hC.1
  have hH1 := hH.1
  obtain ⟨s1, s2, s3, s4, s5, s6, s7, s8, s9, s10, s11, s12, s13, s14, s15, s16, s17⟩ := hS
  have hS : SHR m nh ec es cm pc be Nn Ec wd A Cn ie my su fi mo := ⟨s1, s2, s3, s4, s5, s6, s7, s8, s9, s10, s11, s12, s13, s14, s15, s16, s17⟩
  have z1 := hsc (i + 1)
  have z2 := hsc (i + 2)
  have z3 := hsc (i + 3)
  have z4 := hsc (i + 4)
  by_cases hA : 0 ≤ (sc (i + 1)) ∧ (sc (i + 1)) < n
  · refine V_aload_n h (dk dd_L_law_1 19 rfl) rfl get1 ?_
    refine V_aload_n h (dk dd_L_law_1 20 rfl) rfl get0 ?_
    refine V_iload_n h (dk dd_L_law_1 21 rfl) rfl get3 ?_
    refine V_iconst h (dk dd_L_law_1 22 rfl) ?_
    refine V_iadd h (dk dd_L_law_1 23 rfl) ?_
    refine V_sld h hSc (by omega) (dk dd_L_law_1 24 rfl) ?_
    refine V_callVc h st2 ci_L_18 (pk_c get0 (pk_c get1 (pk_c get2 (pk_c get3 (pk_c get4 (pk_c get5 (pk_c get6 (pk_c get7 (pk_c get8 (pk_c get9 (pk_c get10 (pk_c get11 (pk_c get12 (pk_c get13 (pk_c get14 (pk_c get15 (pk_c get16 (pk_c get17 (pk_c get18 (pk_c get19 (pk_c get20 pk_n))))))))))))))))))))) rfl 0 get0 (m_remove_ok l G _ _ _ _ _ _ _ _ _ _ _ _ _ _ _ _ _ _ _ _ _ (by omega) (by omega) (by omega) (hA)) rfl rfl rfl (by decide) (Nat.le_of_ble_eq_true rfl) ⟨rfl, rfl⟩ hcs (dk dd_L_law_1 25 rfl) sk1 (sm_c set0 (sm_c set1 (sm_c set2 (sm_c set3 (sm_c set4 (sm_c set5 (sm_c set6 (sm_c set7 (sm_c set8 (sm_c set9 (sm_c set10 (sm_c set11 (sm_c set12 (sm_c set13 (sm_c set14 (sm_c set15 (sm_c set16 (sm_c set17 (sm_c set18 (sm_c set19 (sm_c set20 sm_n))))))))))))))))))))) ?_
    refine V_aload_n h (dk dd_L_law_1 26 rfl) rfl get2 ?_
    refine V_aload_n h (dk dd_L_law_1 27 rfl) rfl get0 ?_
    refine V_iload_n h (dk dd_L_law_1 28 rfl) rfl get3 ?_
    refine V_iconst h (dk dd_L_law_1 29 rfl) ?_
    refine V_iadd h (dk dd_L_law_1 30 rfl) ?_
    refine V_sld h hSc (by omega) (dk dd_L_law_1 31 rfl) ?_
    refine V_callVc h st2 ci_L_22 (pk_c get36 (pk_c get38 (pk_c get37 pk_n))) rfl 36 get36 (m_mremove_ok l G _ _ _ _ _ _ _ _ _ _ _ _ _ _ (by omega) (by omega) (by omega) (by omega)) rfl rfl rfl (by decide) (Nat.le_of_ble_eq_true rfl) ⟨rfl, rfl⟩ hcs (dk dd_L_law_1 32 rfl) sk1 (sm_c set36 (sm_c set38 (sm_c set37 sm_n))) ?_
    rw [w0]
    rw [show aM c + 1 = kc c from kc_eq hH1]
    refine V_icmp_same (tgt := 810) h (dk dd_L_law_1 33 rfl) rfl ?_
    exact hk _ _ _ _ _ _ _ _ _ _ _ _ _ _ _ _ _ _ _ _ _ _ _ _ _ _ _ _ _ _ _ _ _ _ _ _ _ _ _ _ _ _ _ _ _ _ _ _ _ _ _ _ ⟨WR_remove hW hA, HR_keep hH hW, hC, hS⟩
  · refine V_aload_n h (dk dd_L_law_1 19 rfl) rfl get1 ?_
    refine V_aload_n h (dk dd_L_law_1 20 rfl) rfl get0 ?_
    refine V_iload_n h (dk dd_L_law_1 21 rfl) rfl get3 ?_
    refine V_iconst h (dk dd_L_law_1 22 rfl) ?_
    refine V_iadd h (dk dd_L_law_1 23 rfl) ?_
    refine V_sld h hSc (by omega) (dk dd_L_law_1 24 rfl) ?_
    refine V_callVc h st2 ci_L_18 (pk_c get0 (pk_c get1 (pk_c get2 (pk_c get3 (pk_c get4 (pk_c get5 (pk_c get6 (pk_c get7 (pk_c get8 (pk_c get9 (pk_c get10 (pk_c get11 (pk_c get12 (pk_c get13 (pk_c get14 (pk_c get15 (pk_c get16 (pk_c get17 (pk_c get18 (pk_c get19 (pk_c get20 pk_n))))))))))))))))))))) rfl 0 get0 (m_remove_bad l G _ _ _ _ _ _ _ _ _ _ _ _ _ _ _ _ _ _ _ _ _ (by omega) (by omega) (by omega) (hA)) rfl rfl rfl (by decide) (Nat.le_of_ble_eq_true rfl) ⟨rfl, rfl⟩ hcs (dk dd_L_law_1 25 rfl) sk1 (sm_c set0 (sm_c set1 (sm_c set2 (sm_c set3 (sm_c set4 (sm_c set5 (sm_c set6 (sm_c set7 (sm_c set8 (sm_c set9 (sm_c set10 (sm_c set11 (sm_c set12 (sm_c set13 (sm_c set14 (sm_c set15 (sm_c set16 (sm_c set17 (sm_c set18 (sm_c set19 (sm_c set20 sm_n))))))))))))))))))))) ?_
    refine V_aload_n h (dk dd_L_law_1 26 rfl) rfl get2 ?_
    refine V_aload_n h (dk dd_L_law_1 27 rfl) rfl get0 ?_
    refine V_iload_n h (dk dd_L_law_1 28 rfl) rfl get3 ?_
    refine V_iconst h (dk dd_L_law_1 29 rfl) ?_
    refine V_iadd h (dk dd_L_law_1 30 rfl) ?_
    refine V_sld h hSc (by omega) (dk dd_L_law_1 31 rfl) ?_
    refine V_callVc h st2 ci_L_22 (pk_c get36 (pk_c get38 (pk_c get37 pk_n))) rfl 36 get36 (m_mremove_bad l G _ _ _ _ _ _ _ _ _ _ _ _ _ _ (by omega) (by omega) (by omega) (by omega)) rfl rfl rfl (by decide) (Nat.le_of_ble_eq_true rfl) ⟨rfl, rfl⟩ hcs (dk dd_L_law_1 32 rfl) sk1 (sm_c set36 (sm_c set38 (sm_c set37 sm_n))) ?_
    refine V_icmp_same (tgt := 810) h (dk dd_L_law_1 33 rfl) rfl ?_
    exact hk _ _ _ _ _ _ _ _ _ _ _ _ _ _ _ _ _ _ _ _ _ _ _ _ _ _ _ _ _ _ _ _ _ _ _ _ _ _ _ _ _ _ _ _ _ _ _ _ _ _ _ _ ⟨hW, hH, hC, hS⟩

set_option maxHeartbeats 8000000 in
set_option maxRecDepth 100000 in
theorem lc_2 {l : Launch} {G : GT} {ad : AdT} {nm : String} {K : KT} {cs : Nat × Nat} (h : Good l G RL nm cL_law 8 room_1 K) (hSt : StrK ad K) {bS Ln : Nat} {sc : Int → Int} (hSc : ScrK bS Ln sc K) (hsc : ∀ j, R32 (sc j)) (hcs : cs.1 ≤ room_1.cells ∧ cs.2 ≤ room_1.slots) {x w hi tx sh pw aw sa sg fd fa rr lo mk ea pt lb lc eb mb pb y : Nat} {q : Nat → Nat} {ra : Int → Nat} (i : Int) (hix : 0 ≤ i ∧ i + 4 < (Ln : Int) ∧ (Ln : Int) ≤ 2560) (hk : LB K cs G bS i x w hi tx sh pw aw sa sg fd fa rr lo mk ea pt lb lc eb mb pb y q ra) (wa pa aa : Nat → Nat) (N L T : Nat → Int) (F : Nat → Int → Int) (c n lo2 z ln a b o fc m nh ec es cm pc be ap fo wr sb : Int) (f ch g P S E T2 U Nn Ec A wd Cn vv pp kd nb Tm ie my su fi mo ish ends : Int → Int) (hR : REL wa pa aa N L T F c n lo2 z ln a b o fc m nh ec es cm pc be ap fo wr sb f ch g P S E T2 U Nn Ec A wd Cn vv pp kd nb Tm ie my su fi mo ish ends) : V K cs 232 [some (.ref bS), some (.ref x), some (.ref y), some (.int (iZ i)), none, none, none, none] [] (WD G x w hi tx sh pw aw sa sg fd fa rr lo mk ea pt lb lc eb mb pb y q ra wa pa aa N L T F c n lo2 z ln a b o fc m nh ec es cm pc be ap fo wr sb f ch g P S E T2 U Nn Ec A wd Cn vv pp kd nb Tm ie my su fi mo ish ends) := by
  obtain ⟨hW, hH, hC, hS⟩ := hR
  obtain ⟨w0, w1, w2, w3, w4, w5⟩ := WR_n hW
  have hC1 := hC.1
  have hH1 := hH.1
  obtain ⟨s1, s2, s3, s4, s5, s6, s7, s8, s9, s10, s11, s12, s13, s14, s15, s16, s17⟩ := hS
  have hS : SHR m nh ec es cm pc be Nn Ec wd A Cn ie my su fi mo := ⟨s1, s2, s3, s4, s5, s6, s7, s8, s9, s10, s11, s12, s13, s14, s15, s16, s17⟩
  have z1 := hsc (i + 1)
  have z2 := hsc (i + 2)
  have z3 := hsc (i + 3)
  have z4 := hsc (i + 4)
  refine V_aload_n h (dk dd_L_law_1 36 rfl) rfl get1 ?_
  refine V_aload_n h (dk dd_L_law_1 37 rfl) rfl get0 ?_
  refine V_iload_n h (dk dd_L_law_1 38 rfl) rfl get3 ?_
  refine V_iconst h (dk dd_L_law_1 39 rfl) ?_
  refine V_iadd h (dk dd_L_law_1 40 rfl) ?_
  refine V_sld h hSc (by omega) (dk dd_L_law_1 41 rfl) ?_
  refine V_aload_n h (dk dd_L_law_1 42 rfl) rfl get0 ?_
  refine V_iload_n h (dk dd_L_law_1 43 rfl) rfl get3 ?_
  refine V_iconst h (dk dd_L_law_1 44 rfl) ?_
  refine V_iadd h (dk dd_L_law_1 45 rfl) ?_
  refine V_sld h hSc (by omega) (dk dd_L_law_1 46 rfl) ?_
  refine V_callVc h st3 ci_L_23 (pk_c get0 (pk_c get1 (pk_c get2 (pk_c get3 pk_n)))) rfl 0 get0 (m_X11_part l G _ _ _ _ _ _ _ _ _ _ _ _ _ (by omega) (by omega) (by omega)) rfl rfl rfl (by decide) (Nat.le_of_ble_eq_true rfl) ⟨rfl, rfl⟩ hcs (dk dd_L_law_1 47 rfl) sk1 (sm_c set0 (sm_c set1 (sm_c set2 (sm_c set3 sm_n)))) ?_
  refine V_aload_n h (dk dd_L_law_1 48 rfl) rfl get2 ?_
  refine V_aload_n h (dk dd_L_law_1 49 rfl) rfl get0 ?_
  refine V_iload_n h (dk dd_L_law_2 0 rfl) rfl get3 ?_
  refine V_iconst h (dk dd_L_law_2 1 rfl) ?_
  refine V_iadd h (dk dd_L_law_2 2 rfl) ?_
  refine V_sld h hSc (by omega) (dk dd_L_law_2 3 rfl) ?_
  refine V_aload_n h (dk dd_L_law_2 4 rfl) rfl get0 ?_
  refine V_iload_n h (dk dd_L_law_2 5 rfl) rfl get3 ?_
  refine V_iconst h (dk dd_L_law_2 6 rfl) ?_
  refine V_iadd h (dk dd_L_law_2 7 rfl) ?_
  refine V_sld h hSc (by omega) (dk dd_L_law_2 8 rfl) ?_
  refine V_callVc h st3 ci_L_27 (pk_c get36 (pk_c get37 pk_n)) rfl 36 get36 (m_X12_part l G _ _ _ _ _ _ _ _ _ _ _ _ _ _ (by omega) (by omega) (by omega)) rfl rfl rfl (by decide) (Nat.le_of_ble_eq_true rfl) ⟨rfl, rfl⟩ hcs (dk dd_L_law_2 9 rfl) sk1 (sm_c set36 (sm_c set37 sm_n)) ?_
  rw [← WR_num hW]
  refine V_icmp_same (tgt := 810) h (dk dd_L_law_2 10 rfl) rfl ?_
  exact hk _ _ _ _ _ _ _ _ _ _ _ _ _ _ _ _ _ _ _ _ _ _ _ _ _ _ _ _ _ _ _ _ _ _ _ _ _ _ _ _ _ _ _ _ _ _ _ _ _ _ _ _ ⟨hW, hH, hC, hS⟩

set_option maxHeartbeats 8000000 in
set_option maxRecDepth 100000 in
theorem lc_3 {l : Launch} {G : GT} {ad : AdT} {nm : String} {K : KT} {cs : Nat × Nat} (h : Good l G RL nm cL_law 8 room_1 K) (hSt : StrK ad K) {bS Ln : Nat} {sc : Int → Int} (hSc : ScrK bS Ln sc K) (hsc : ∀ j, R32 (sc j)) (hcs : cs.1 ≤ room_1.cells ∧ cs.2 ≤ room_1.slots) {x w hi tx sh pw aw sa sg fd fa rr lo mk ea pt lb lc eb mb pb y : Nat} {q : Nat → Nat} {ra : Int → Nat} (i : Int) (hix : 0 ≤ i ∧ i + 4 < (Ln : Int) ∧ (Ln : Int) ≤ 2560) (hk : LB K cs G bS i x w hi tx sh pw aw sa sg fd fa rr lo mk ea pt lb lc eb mb pb y q ra) (wa pa aa : Nat → Nat) (N L T : Nat → Int) (F : Nat → Int → Int) (c n lo2 z ln a b o fc m nh ec es cm pc be ap fo wr sb : Int) (f ch g P S E T2 U Nn Ec A wd Cn vv pp kd nb Tm ie my su fi mo ish ends : Int → Int) (hR : REL wa pa aa N L T F c n lo2 z ln a b o fc m nh ec es cm pc be ap fo wr sb f ch g P S E T2 U Nn Ec A wd Cn vv pp kd nb Tm ie my su fi mo ish ends) : V K cs 265 [some (.ref bS), some (.ref x), some (.ref y), some (.int (iZ i)), none, none, none, none] [] (WD G x w hi tx sh pw aw sa sg fd fa rr lo mk ea pt lb lc eb mb pb y q ra wa pa aa N L T F c n lo2 z ln a b o fc m nh ec es cm pc be ap fo wr sb f ch g P S E T2 U Nn Ec A wd Cn vv pp kd nb Tm ie my su fi mo ish ends) := by
  obtain ⟨hW, hH, hC, hS⟩ := hR
  obtain ⟨w0, w1, w2, w3, w4, w5⟩ := WR_n hW
  have hC1 := hC.1
  have hH1 := hH.1
  obtain ⟨s1, s2, s3, s4, s5, s6, s7, s8, s9, s10, s11, s12, s13, s14, s15, s16, s17⟩ := hS
  have hS : SHR m nh ec es cm pc be Nn Ec wd A Cn ie my su fi mo := ⟨s1, s2, s3, s4, s5, s6, s7, s8, s9, s10, s11, s12, s13, s14, s15, s16, s17⟩
  have z1 := hsc (i + 1)
  have z2 := hsc (i + 2)
  have z3 := hsc (i + 3)
  have z4 := hsc (i + 4)
  refine V_aload_n h (dk dd_L_law_2 13 rfl) rfl get1 ?_
  refine V_callVc h st1 ci_L_28 (pk_c get0 (pk_c get1 (pk_c get2 (pk_c get3 pk_n)))) rfl 0 get0 (m_X11_parts l G _ _ _ _ _ _ _ _ _ _ _ ) rfl rfl rfl (by decide) (Nat.le_of_ble_eq_true rfl) ⟨rfl, rfl⟩ hcs (dk dd_L_law_2 14 rfl) sk1 (sm_c set0 (sm_c set1 (sm_c set2 (sm_c set3 sm_n)))) ?_
  refine V_aload_n h (dk dd_L_law_2 15 rfl) rfl get2 ?_
  refine V_callVc h st1 ci_L_32 (pk_c get36 (pk_c get37 pk_n)) rfl 36 get36 (m_X12_parts l G _ _ _ _ _ _ _ _ _ _ _ _ ) rfl rfl rfl (by decide) (Nat.le_of_ble_eq_true rfl) ⟨rfl, rfl⟩ hcs (dk dd_L_law_2 16 rfl) sk1 (sm_c set36 (sm_c set37 sm_n)) ?_
  rw [w0]
  refine V_icmp_same (tgt := 810) h (dk dd_L_law_2 17 rfl) rfl ?_
  exact hk _ _ _ _ _ _ _ _ _ _ _ _ _ _ _ _ _ _ _ _ _ _ _ _ _ _ _ _ _ _ _ _ _ _ _ _ _ _ _ _ _ _ _ _ _ _ _ _ _ _ _ _ ⟨hW, hH, hC, hS⟩

set_option maxHeartbeats 8000000 in
set_option maxRecDepth 100000 in
theorem lc_4 {l : Launch} {G : GT} {ad : AdT} {nm : String} {K : KT} {cs : Nat × Nat} (h : Good l G RL nm cL_law 8 room_1 K) (hSt : StrK ad K) {bS Ln : Nat} {sc : Int → Int} (hSc : ScrK bS Ln sc K) (hsc : ∀ j, R32 (sc j)) (hcs : cs.1 ≤ room_1.cells ∧ cs.2 ≤ room_1.slots) {x w hi tx sh pw aw sa sg fd fa rr lo mk ea pt lb lc eb mb pb y : Nat} {q : Nat → Nat} {ra : Int → Nat} (i : Int) (hix : 0 ≤ i ∧ i + 4 < (Ln : Int) ∧ (Ln : Int) ≤ 2560) (hk : LB K cs G bS i x w hi tx sh pw aw sa sg fd fa rr lo mk ea pt lb lc eb mb pb y q ra) (wa pa aa : Nat → Nat) (N L T : Nat → Int) (F : Nat → Int → Int) (c n lo2 z ln a b o fc m nh ec es cm pc be ap fo wr sb : Int) (f ch g P S E T2 U Nn Ec A wd Cn vv pp kd nb Tm ie my su fi mo ish ends : Int → Int) (hR : REL wa pa aa N L T F c n lo2 z ln a b o fc m nh ec es cm pc be ap fo wr sb f ch g P S E T2 U Nn Ec A wd Cn vv pp kd nb Tm ie my su fi mo ish ends) : V K cs 278 [some (.ref bS), some (.ref x), some (.ref y), some (.int (iZ i)), none, none, none, none] [] (WD G x w hi tx sh pw aw sa sg fd fa rr lo mk ea pt lb lc eb mb pb y q ra wa pa aa N L T F c n lo2 z ln a b o fc m nh ec es cm pc be ap fo wr sb f ch g P S E T2 U Nn Ec A wd Cn vv pp kd nb Tm ie my su fi mo ish ends) := by
  obtain ⟨hW, hH, hC, hS⟩ := hR
  obtain ⟨w0, w1, w2, w3, w4, w5⟩ := WR_n hW
  have hC1 := hC.1
  have hH1 := hH.1
  obtain ⟨s1, s2, s3, s4, s5, s6, s7, s8, s9, s10, s11, s12, s13, s14, s15, s16, s17⟩ := hS
  have hS : SHR m nh ec es cm pc be Nn Ec wd A Cn ie my su fi mo := ⟨s1, s2, s3, s4, s5, s6, s7, s8, s9, s10, s11, s12, s13, s14, s15, s16, s17⟩
  have z1 := hsc (i + 1)
  have z2 := hsc (i + 2)
  have z3 := hsc (i + 3)
  have z4 := hsc (i + 4)
  by_cases hA : 0 ≤ (sc (i + 1)) ∧ (sc (i + 1)) ≤ 999
  · refine V_aload_n h (dk dd_L_law_2 20 rfl) rfl get1 ?_
    refine V_aload_n h (dk dd_L_law_2 21 rfl) rfl get0 ?_
    refine V_iload_n h (dk dd_L_law_2 22 rfl) rfl get3 ?_
    refine V_iconst h (dk dd_L_law_2 23 rfl) ?_
    refine V_iadd h (dk dd_L_law_2 24 rfl) ?_
    refine V_sld h hSc (by omega) (dk dd_L_law_2 25 rfl) ?_
    refine V_callVc h st2 ci_L_33 (pk_c get0 (pk_c get1 (pk_c get2 (pk_c get3 (pk_c get4 (pk_c get5 (pk_c get6 (pk_c get7 (pk_c get8 (pk_c get9 (pk_c get10 (pk_c get11 (pk_c get12 (pk_c get13 (pk_c get14 (pk_c get15 (pk_c get16 (pk_c get17 (pk_c get18 (pk_c get19 (pk_c get20 pk_n))))))))))))))))))))) rfl 0 get0 (m_setLoss_ok l G _ _ _ _ _ _ _ _ _ _ _ _ _ _ _ _ _ _ _ _ _ (by omega) (by omega) (by omega) (hA)) rfl rfl rfl (by decide) (Nat.le_of_ble_eq_true rfl) ⟨rfl, rfl⟩ hcs (dk dd_L_law_2 26 rfl) sk1 (sm_c set0 (sm_c set1 (sm_c set2 (sm_c set3 (sm_c set4 (sm_c set5 (sm_c set6 (sm_c set7 (sm_c set8 (sm_c set9 (sm_c set10 (sm_c set11 (sm_c set12 (sm_c set13 (sm_c set14 (sm_c set15 (sm_c set16 (sm_c set17 (sm_c set18 (sm_c set19 (sm_c set20 sm_n))))))))))))))))))))) ?_
    refine V_aload_n h (dk dd_L_law_2 27 rfl) rfl get2 ?_
    refine V_aload_n h (dk dd_L_law_2 28 rfl) rfl get0 ?_
    refine V_iload_n h (dk dd_L_law_2 29 rfl) rfl get3 ?_
    refine V_iconst h (dk dd_L_law_2 30 rfl) ?_
    refine V_iadd h (dk dd_L_law_2 31 rfl) ?_
    refine V_sld h hSc (by omega) (dk dd_L_law_2 32 rfl) ?_
    refine V_callVc h st2 ci_L_36 (pk_c get36 (pk_c get38 (pk_c get37 pk_n))) rfl 36 get36 (m_msetLoss_ok l G _ _ _ _ _ _ _ _ _ _ _ _ _ _ (by omega) (by omega) (by omega) (hA)) rfl rfl rfl (by decide) (Nat.le_of_ble_eq_true rfl) ⟨rfl, rfl⟩ hcs (dk dd_L_law_2 33 rfl) sk1 (sm_c set36 (sm_c set38 (sm_c set37 sm_n))) ?_
    rw [w1]
    rw [show aM c + 1 = kc c from kc_eq hH1]
    refine V_icmp_same (tgt := 810) h (dk dd_L_law_2 34 rfl) rfl ?_
    exact hk _ _ _ _ _ _ _ _ _ _ _ _ _ _ _ _ _ _ _ _ _ _ _ _ _ _ _ _ _ _ _ _ _ _ _ _ _ _ _ _ _ _ _ _ _ _ _ _ _ _ _ _ ⟨WR_loss hW hA, HR_keep hH hW, hC, hS⟩
  · refine V_aload_n h (dk dd_L_law_2 20 rfl) rfl get1 ?_
    refine V_aload_n h (dk dd_L_law_2 21 rfl) rfl get0 ?_
    refine V_iload_n h (dk dd_L_law_2 22 rfl) rfl get3 ?_
    refine V_iconst h (dk dd_L_law_2 23 rfl) ?_
    refine V_iadd h (dk dd_L_law_2 24 rfl) ?_
    refine V_sld h hSc (by omega) (dk dd_L_law_2 25 rfl) ?_
    refine V_callVc h st2 ci_L_33 (pk_c get0 (pk_c get1 (pk_c get2 (pk_c get3 (pk_c get4 (pk_c get5 (pk_c get6 (pk_c get7 (pk_c get8 (pk_c get9 (pk_c get10 (pk_c get11 (pk_c get12 (pk_c get13 (pk_c get14 (pk_c get15 (pk_c get16 (pk_c get17 (pk_c get18 (pk_c get19 (pk_c get20 pk_n))))))))))))))))))))) rfl 0 get0 (m_setLoss_bad l G _ _ _ _ _ _ _ _ _ _ _ _ _ _ _ _ _ _ _ _ _ (by omega) (by omega) (by omega) (hA)) rfl rfl rfl (by decide) (Nat.le_of_ble_eq_true rfl) ⟨rfl, rfl⟩ hcs (dk dd_L_law_2 26 rfl) sk1 (sm_c set0 (sm_c set1 (sm_c set2 (sm_c set3 (sm_c set4 (sm_c set5 (sm_c set6 (sm_c set7 (sm_c set8 (sm_c set9 (sm_c set10 (sm_c set11 (sm_c set12 (sm_c set13 (sm_c set14 (sm_c set15 (sm_c set16 (sm_c set17 (sm_c set18 (sm_c set19 (sm_c set20 sm_n))))))))))))))))))))) ?_
    refine V_aload_n h (dk dd_L_law_2 27 rfl) rfl get2 ?_
    refine V_aload_n h (dk dd_L_law_2 28 rfl) rfl get0 ?_
    refine V_iload_n h (dk dd_L_law_2 29 rfl) rfl get3 ?_
    refine V_iconst h (dk dd_L_law_2 30 rfl) ?_
    refine V_iadd h (dk dd_L_law_2 31 rfl) ?_
    refine V_sld h hSc (by omega) (dk dd_L_law_2 32 rfl) ?_
    refine V_callVc h st2 ci_L_36 (pk_c get36 (pk_c get38 (pk_c get37 pk_n))) rfl 36 get36 (m_msetLoss_bad l G _ _ _ _ _ _ _ _ _ _ _ _ _ _ (by omega) (by omega) (by omega) (hA)) rfl rfl rfl (by decide) (Nat.le_of_ble_eq_true rfl) ⟨rfl, rfl⟩ hcs (dk dd_L_law_2 33 rfl) sk1 (sm_c set36 (sm_c set38 (sm_c set37 sm_n))) ?_
    refine V_icmp_same (tgt := 810) h (dk dd_L_law_2 34 rfl) rfl ?_
    exact hk _ _ _ _ _ _ _ _ _ _ _ _ _ _ _ _ _ _ _ _ _ _ _ _ _ _ _ _ _ _ _ _ _ _ _ _ _ _ _ _ _ _ _ _ _ _ _ _ _ _ _ _ ⟨hW, hH, hC, hS⟩

set_option maxHeartbeats 8000000 in
set_option maxRecDepth 100000 in
theorem lc_5 {l : Launch} {G : GT} {ad : AdT} {nm : String} {K : KT} {cs : Nat × Nat} (h : Good l G RL nm cL_law 8 room_1 K) (hSt : StrK ad K) {bS Ln : Nat} {sc : Int → Int} (hSc : ScrK bS Ln sc K) (hsc : ∀ j, R32 (sc j)) (hcs : cs.1 ≤ room_1.cells ∧ cs.2 ≤ room_1.slots) {x w hi tx sh pw aw sa sg fd fa rr lo mk ea pt lb lc eb mb pb y : Nat} {q : Nat → Nat} {ra : Int → Nat} (i : Int) (hix : 0 ≤ i ∧ i + 4 < (Ln : Int) ∧ (Ln : Int) ≤ 2560) (hk : LB K cs G bS i x w hi tx sh pw aw sa sg fd fa rr lo mk ea pt lb lc eb mb pb y q ra) (wa pa aa : Nat → Nat) (N L T : Nat → Int) (F : Nat → Int → Int) (c n lo2 z ln a b o fc m nh ec es cm pc be ap fo wr sb : Int) (f ch g P S E T2 U Nn Ec A wd Cn vv pp kd nb Tm ie my su fi mo ish ends : Int → Int) (hR : REL wa pa aa N L T F c n lo2 z ln a b o fc m nh ec es cm pc be ap fo wr sb f ch g P S E T2 U Nn Ec A wd Cn vv pp kd nb Tm ie my su fi mo ish ends) : V K cs 301 [some (.ref bS), some (.ref x), some (.ref y), some (.int (iZ i)), none, none, none, none] [] (WD G x w hi tx sh pw aw sa sg fd fa rr lo mk ea pt lb lc eb mb pb y q ra wa pa aa N L T F c n lo2 z ln a b o fc m nh ec es cm pc be ap fo wr sb f ch g P S E T2 U Nn Ec A wd Cn vv pp kd nb Tm ie my su fi mo ish ends) := by
  obtain ⟨hW, hH, hC, hS⟩ := hR
  obtain ⟨w0, w1, w2, w3, w4, w5⟩ := WR_n hW
  have hC1 := hC.1
  have hH1 := hH.1
  obtain ⟨s1, s2, s3, s4, s5, s6, s7, s8, s9, s10, s11, s12, s13, s14, s15, s16, s17⟩ := hS
  have hS : SHR m nh ec es cm pc be Nn Ec wd A Cn ie my su fi mo := ⟨s1, s2, s3, s4, s5, s6, s7, s8, s9, s10, s11, s12, s13, s14, s15, s16, s17⟩
  have z1 := hsc (i + 1)
  have z2 := hsc (i + 2)
  have z3 := hsc (i + 3)
  have z4 := hsc (i + 4)
  by_cases hA : 1 ≤ (sc (i + 1)) ∧ (sc (i + 1)) ≤ 1000000
  · refine V_aload_n h (dk dd_L_law_2 37 rfl) rfl get1 ?_
    refine V_aload_n h (dk dd_L_law_2 38 rfl) rfl get0 ?_
    refine V_iload_n h (dk dd_L_law_2 39 rfl) rfl get3 ?_
    refine V_iconst h (dk dd_L_law_2 40 rfl) ?_
    refine V_iadd h (dk dd_L_law_2 41 rfl) ?_
    refine V_sld h hSc (by omega) (dk dd_L_law_2 42 rfl) ?_
    refine V_callVc h st2 ci_L_37 (pk_c get0 (pk_c get1 (pk_c get2 (pk_c get3 (pk_c get4 (pk_c get5 (pk_c get6 (pk_c get7 (pk_c get8 (pk_c get9 (pk_c get10 (pk_c get11 (pk_c get12 (pk_c get13 (pk_c get14 (pk_c get15 (pk_c get16 (pk_c get17 (pk_c get18 (pk_c get19 (pk_c get20 pk_n))))))))))))))))))))) rfl 0 get0 (m_setThreshold_ok l G _ _ _ _ _ _ _ _ _ _ _ _ _ _ _ _ _ _ _ _ _ (by omega) (by omega) (by omega) (hA)) rfl rfl rfl (by decide) (Nat.le_of_ble_eq_true rfl) ⟨rfl, rfl⟩ hcs (dk dd_L_law_2 43 rfl) sk1 (sm_c set0 (sm_c set1 (sm_c set2 (sm_c set3 (sm_c set4 (sm_c set5 (sm_c set6 (sm_c set7 (sm_c set8 (sm_c set9 (sm_c set10 (sm_c set11 (sm_c set12 (sm_c set13 (sm_c set14 (sm_c set15 (sm_c set16 (sm_c set17 (sm_c set18 (sm_c set19 (sm_c set20 sm_n))))))))))))))))))))) ?_
    refine V_aload_n h (dk dd_L_law_2 44 rfl) rfl get2 ?_
    refine V_aload_n h (dk dd_L_law_2 45 rfl) rfl get0 ?_
    refine V_iload_n h (dk dd_L_law_2 46 rfl) rfl get3 ?_
    refine V_iconst h (dk dd_L_law_2 47 rfl) ?_
    refine V_iadd h (dk dd_L_law_2 48 rfl) ?_
    refine V_sld h hSc (by omega) (dk dd_L_law_2 49 rfl) ?_
    refine V_callVc h st2 ci_L_40 (pk_c get36 (pk_c get38 (pk_c get37 pk_n))) rfl 36 get36 (m_msetThreshold_ok l G _ _ _ _ _ _ _ _ _ _ _ _ _ _ (by omega) (by omega) (by omega) (hA)) rfl rfl rfl (by decide) (Nat.le_of_ble_eq_true rfl) ⟨rfl, rfl⟩ hcs (dk dd_L_law_3 0 rfl) sk1 (sm_c set36 (sm_c set38 (sm_c set37 sm_n))) ?_
    rw [w2]
    rw [show aM c + 1 = kc c from kc_eq hH1]
    refine V_icmp_same (tgt := 810) h (dk dd_L_law_3 1 rfl) rfl ?_
    exact hk _ _ _ _ _ _ _ _ _ _ _ _ _ _ _ _ _ _ _ _ _ _ _ _ _ _ _ _ _ _ _ _ _ _ _ _ _ _ _ _ _ _ _ _ _ _ _ _ _ _ _ _ ⟨WR_thr hW hA, HR_keep hH hW, hC, hS⟩
  · refine V_aload_n h (dk dd_L_law_2 37 rfl) rfl get1 ?_
    refine V_aload_n h (dk dd_L_law_2 38 rfl) rfl get0 ?_
    refine V_iload_n h (dk dd_L_law_2 39 rfl) rfl get3 ?_
    refine V_iconst h (dk dd_L_law_2 40 rfl) ?_
    refine V_iadd h (dk dd_L_law_2 41 rfl) ?_
    refine V_sld h hSc (by omega) (dk dd_L_law_2 42 rfl) ?_
    refine V_callVc h st2 ci_L_37 (pk_c get0 (pk_c get1 (pk_c get2 (pk_c get3 (pk_c get4 (pk_c get5 (pk_c get6 (pk_c get7 (pk_c get8 (pk_c get9 (pk_c get10 (pk_c get11 (pk_c get12 (pk_c get13 (pk_c get14 (pk_c get15 (pk_c get16 (pk_c get17 (pk_c get18 (pk_c get19 (pk_c get20 pk_n))))))))))))))))))))) rfl 0 get0 (m_setThreshold_bad l G _ _ _ _ _ _ _ _ _ _ _ _ _ _ _ _ _ _ _ _ _ (by omega) (by omega) (by omega) (hA)) rfl rfl rfl (by decide) (Nat.le_of_ble_eq_true rfl) ⟨rfl, rfl⟩ hcs (dk dd_L_law_2 43 rfl) sk1 (sm_c set0 (sm_c set1 (sm_c set2 (sm_c set3 (sm_c set4 (sm_c set5 (sm_c set6 (sm_c set7 (sm_c set8 (sm_c set9 (sm_c set10 (sm_c set11 (sm_c set12 (sm_c set13 (sm_c set14 (sm_c set15 (sm_c set16 (sm_c set17 (sm_c set18 (sm_c set19 (sm_c set20 sm_n))))))))))))))))))))) ?_
    refine V_aload_n h (dk dd_L_law_2 44 rfl) rfl get2 ?_
    refine V_aload_n h (dk dd_L_law_2 45 rfl) rfl get0 ?_
    refine V_iload_n h (dk dd_L_law_2 46 rfl) rfl get3 ?_
    refine V_iconst h (dk dd_L_law_2 47 rfl) ?_
    refine V_iadd h (dk dd_L_law_2 48 rfl) ?_
    refine V_sld h hSc (by omega) (dk dd_L_law_2 49 rfl) ?_
    refine V_callVc h st2 ci_L_40 (pk_c get36 (pk_c get38 (pk_c get37 pk_n))) rfl 36 get36 (m_msetThreshold_bad l G _ _ _ _ _ _ _ _ _ _ _ _ _ _ (by omega) (by omega) (by omega) (hA)) rfl rfl rfl (by decide) (Nat.le_of_ble_eq_true rfl) ⟨rfl, rfl⟩ hcs (dk dd_L_law_3 0 rfl) sk1 (sm_c set36 (sm_c set38 (sm_c set37 sm_n))) ?_
    refine V_icmp_same (tgt := 810) h (dk dd_L_law_3 1 rfl) rfl ?_
    exact hk _ _ _ _ _ _ _ _ _ _ _ _ _ _ _ _ _ _ _ _ _ _ _ _ _ _ _ _ _ _ _ _ _ _ _ _ _ _ _ _ _ _ _ _ _ _ _ _ _ _ _ _ ⟨hW, hH, hC, hS⟩

set_option maxHeartbeats 8000000 in
set_option maxRecDepth 100000 in
theorem lc_6 {l : Launch} {G : GT} {ad : AdT} {nm : String} {K : KT} {cs : Nat × Nat} (h : Good l G RL nm cL_law 8 room_1 K) (hSt : StrK ad K) {bS Ln : Nat} {sc : Int → Int} (hSc : ScrK bS Ln sc K) (hsc : ∀ j, R32 (sc j)) (hcs : cs.1 ≤ room_1.cells ∧ cs.2 ≤ room_1.slots) {x w hi tx sh pw aw sa sg fd fa rr lo mk ea pt lb lc eb mb pb y : Nat} {q : Nat → Nat} {ra : Int → Nat} (i : Int) (hix : 0 ≤ i ∧ i + 4 < (Ln : Int) ∧ (Ln : Int) ≤ 2560) (hk : LB K cs G bS i x w hi tx sh pw aw sa sg fd fa rr lo mk ea pt lb lc eb mb pb y q ra) (wa pa aa : Nat → Nat) (N L T : Nat → Int) (F : Nat → Int → Int) (c n lo2 z ln a b o fc m nh ec es cm pc be ap fo wr sb : Int) (f ch g P S E T2 U Nn Ec A wd Cn vv pp kd nb Tm ie my su fi mo ish ends : Int → Int) (hR : REL wa pa aa N L T F c n lo2 z ln a b o fc m nh ec es cm pc be ap fo wr sb f ch g P S E T2 U Nn Ec A wd Cn vv pp kd nb Tm ie my su fi mo ish ends) : V K cs 324 [some (.ref bS), some (.ref x), some (.ref y), some (.int (iZ i)), none, none, none, none] [] (WD G x w hi tx sh pw aw sa sg fd fa rr lo mk ea pt lb lc eb mb pb y q ra wa pa aa N L T F c n lo2 z ln a b o fc m nh ec es cm pc be ap fo wr sb f ch g P S E T2 U Nn Ec A wd Cn vv pp kd nb Tm ie my su fi mo ish ends) := by
  obtain ⟨hW, hH, hC, hS⟩ := hR
  obtain ⟨w0, w1, w2, w3, w4, w5⟩ := WR_n hW
  have hC1 := hC.1
  have hH1 := hH.1
  obtain ⟨s1, s2, s3, s4, s5, s6, s7, s8, s9, s10, s11, s12, s13, s14, s15, s16, s17⟩ := hS
  have hS : SHR m nh ec es cm pc be Nn Ec wd A Cn ie my su fi mo := ⟨s1, s2, s3, s4, s5, s6, s7, s8, s9, s10, s11, s12, s13, s14, s15, s16, s17⟩
  have z1 := hsc (i + 1)
  have z2 := hsc (i + 2)
  have z3 := hsc (i + 3)
  have z4 := hsc (i + 4)
  rcases (show ¬ (32 ≤ (sc (i + 1)) ∧ (sc (i + 1)) ≤ 126) ∨ ((32 ≤ (sc (i + 1)) ∧ (sc (i + 1)) ≤ 126) ∧ ln = 60) ∨ ((32 ≤ (sc (i + 1)) ∧ (sc (i + 1)) ≤ 126) ∧ ln < 60) by omega) with hA | ⟨hA, h60⟩ | ⟨hA, h60⟩
  · refine V_aload_n h (dk dd_L_law_3 4 rfl) rfl get1 ?_
    refine V_aload_n h (dk dd_L_law_3 5 rfl) rfl get0 ?_
    refine V_iload_n h (dk dd_L_law_3 6 rfl) rfl get3 ?_
    refine V_iconst h (dk dd_L_law_3 7 rfl) ?_
    refine V_iadd h (dk dd_L_law_3 8 rfl) ?_
    refine V_sld h hSc (by omega) (dk dd_L_law_3 9 rfl) ?_
    refine V_callVc h st2 ci_L_41 (pk_c get0 (pk_c get21 (pk_c get22 (pk_c get23 (pk_c get24 pk_n))))) rfl 0 get0 (m_type_bad l G _ _ _ _ _ _ _ _ _ _ _ _ _ _ _ _ (hC) (by omega) (by omega)) rfl rfl rfl (by decide) (Nat.le_of_ble_eq_true rfl) ⟨rfl, rfl⟩ hcs (dk dd_L_law_3 10 rfl) sk1 (sm_c set0 (sm_c set21 (sm_c set22 (sm_c set23 (sm_c set24 sm_n))))) ?_
    refine V_aload_n h (dk dd_L_law_3 11 rfl) rfl get2 ?_
    refine V_aload_n h (dk dd_L_law_3 12 rfl) rfl get0 ?_
    refine V_iload_n h (dk dd_L_law_3 13 rfl) rfl get3 ?_
    refine V_iconst h (dk dd_L_law_3 14 rfl) ?_
    refine V_iadd h (dk dd_L_law_3 15 rfl) ?_
    refine V_sld h hSc (by omega) (dk dd_L_law_3 16 rfl) ?_
    refine V_callVc h st2 ci_L_44 (pk_c get36 (pk_c get39 pk_n)) rfl 36 get36 (m_mtype_bad l G _ _ _ _ _ _ _ _ _ _ _ _ _ (by omega) (by omega) (by omega)) rfl rfl rfl (by decide) (Nat.le_of_ble_eq_true rfl) ⟨rfl, rfl⟩ hcs (dk dd_L_law_3 17 rfl) sk1 (sm_c set36 (sm_c set39 sm_n)) ?_
    refine V_icmp_same (tgt := 810) h (dk dd_L_law_3 18 rfl) rfl ?_
    exact hk _ _ _ _ _ _ _ _ _ _ _ _ _ _ _ _ _ _ _ _ _ _ _ _ _ _ _ _ _ _ _ _ _ _ _ _ _ _ _ _ _ _ _ _ _ _ _ _ _ _ _ _ ⟨hW, hH, hC, hS⟩
  · refine V_aload_n h (dk dd_L_law_3 4 rfl) rfl get1 ?_
    refine V_aload_n h (dk dd_L_law_3 5 rfl) rfl get0 ?_
    refine V_iload_n h (dk dd_L_law_3 6 rfl) rfl get3 ?_
    refine V_iconst h (dk dd_L_law_3 7 rfl) ?_
    refine V_iadd h (dk dd_L_law_3 8 rfl) ?_
    refine V_sld h hSc (by omega) (dk dd_L_law_3 9 rfl) ?_
    refine V_callVc h st2 ci_L_41 (pk_c get0 (pk_c get21 (pk_c get22 (pk_c get23 (pk_c get24 pk_n))))) rfl 0 get0 (m_type_full l G _ _ _ _ _ _ _ _ _ _ _ _ _ _ _ _ (hC) (by omega) (by omega) (by omega)) rfl rfl rfl (by decide) (Nat.le_of_ble_eq_true rfl) ⟨rfl, rfl⟩ hcs (dk dd_L_law_3 10 rfl) sk1 (sm_c set0 (sm_c set21 (sm_c set22 (sm_c set23 (sm_c set24 sm_n))))) ?_
    refine V_aload_n h (dk dd_L_law_3 11 rfl) rfl get2 ?_
    refine V_aload_n h (dk dd_L_law_3 12 rfl) rfl get0 ?_
    refine V_iload_n h (dk dd_L_law_3 13 rfl) rfl get3 ?_
    refine V_iconst h (dk dd_L_law_3 14 rfl) ?_
    refine V_iadd h (dk dd_L_law_3 15 rfl) ?_
    refine V_sld h hSc (by omega) (dk dd_L_law_3 16 rfl) ?_
    refine V_callVc h st2 ci_L_44 (pk_c get36 (pk_c get39 pk_n)) rfl 36 get36 (m_mtype_full l G _ _ _ _ _ _ _ _ _ _ _ _ _ (by omega) (by omega) (by omega) (by omega)) rfl rfl rfl (by decide) (Nat.le_of_ble_eq_true rfl) ⟨rfl, rfl⟩ hcs (dk dd_L_law_3 17 rfl) sk1 (sm_c set36 (sm_c set39 sm_n)) ?_
    refine V_icmp_same (tgt := 810) h (dk dd_L_law_3 18 rfl) rfl ?_
    exact hk _ _ _ _ _ _ _ _ _ _ _ _ _ _ _ _ _ _ _ _ _ _ _ _ _ _ _ _ _ _ _ _ _ _ _ _ _ _ _ _ _ _ _ _ _ _ _ _ _ _ _ _ ⟨hW, hH, hC, hS⟩
  · refine V_aload_n h (dk dd_L_law_3 4 rfl) rfl get1 ?_
    refine V_aload_n h (dk dd_L_law_3 5 rfl) rfl get0 ?_
    refine V_iload_n h (dk dd_L_law_3 6 rfl) rfl get3 ?_
    refine V_iconst h (dk dd_L_law_3 7 rfl) ?_
    refine V_iadd h (dk dd_L_law_3 8 rfl) ?_
    refine V_sld h hSc (by omega) (dk dd_L_law_3 9 rfl) ?_
    refine V_callVc h st2 ci_L_41 (pk_c get0 (pk_c get21 (pk_c get22 (pk_c get23 (pk_c get24 pk_n))))) rfl 0 get0 (m_type_ok l G _ _ _ _ _ _ _ _ _ _ _ _ _ _ _ _ (hC) (by omega) (by omega) (by omega)) rfl rfl rfl (by decide) (Nat.le_of_ble_eq_true rfl) ⟨rfl, rfl⟩ hcs (dk dd_L_law_3 10 rfl) sk1 (sm_c set0 (sm_c set21 (sm_c set22 (sm_c set23 (sm_c set24 sm_n))))) ?_
    refine V_aload_n h (dk dd_L_law_3 11 rfl) rfl get2 ?_
    refine V_aload_n h (dk dd_L_law_3 12 rfl) rfl get0 ?_
    refine V_iload_n h (dk dd_L_law_3 13 rfl) rfl get3 ?_
    refine V_iconst h (dk dd_L_law_3 14 rfl) ?_
    refine V_iadd h (dk dd_L_law_3 15 rfl) ?_
    refine V_sld h hSc (by omega) (dk dd_L_law_3 16 rfl) ?_
    refine V_callVc h st2 ci_L_44 (pk_c get36 (pk_c get39 pk_n)) rfl 36 get36 (m_mtype_ok l G _ _ _ _ _ _ _ _ _ _ _ _ _ (by omega) (by omega) (by omega) (by omega)) rfl rfl rfl (by decide) (Nat.le_of_ble_eq_true rfl) ⟨rfl, rfl⟩ hcs (dk dd_L_law_3 17 rfl) sk1 (sm_c set36 (sm_c set39 sm_n)) ?_
    refine V_icmp_same (tgt := 810) h (dk dd_L_law_3 18 rfl) rfl ?_
    exact hk _ _ _ _ _ _ _ _ _ _ _ _ _ _ _ _ _ _ _ _ _ _ _ _ _ _ _ _ _ _ _ _ _ _ _ _ _ _ _ _ _ _ _ _ _ _ _ _ _ _ _ _ ⟨hW, hH, type_ok hC hA h60, hS⟩

set_option maxHeartbeats 8000000 in
set_option maxRecDepth 100000 in
theorem lc_7 {l : Launch} {G : GT} {ad : AdT} {nm : String} {K : KT} {cs : Nat × Nat} (h : Good l G RL nm cL_law 8 room_1 K) (hSt : StrK ad K) {bS Ln : Nat} {sc : Int → Int} (hSc : ScrK bS Ln sc K) (hsc : ∀ j, R32 (sc j)) (hcs : cs.1 ≤ room_1.cells ∧ cs.2 ≤ room_1.slots) {x w hi tx sh pw aw sa sg fd fa rr lo mk ea pt lb lc eb mb pb y : Nat} {q : Nat → Nat} {ra : Int → Nat} (i : Int) (hix : 0 ≤ i ∧ i + 4 < (Ln : Int) ∧ (Ln : Int) ≤ 2560) (hk : LB K cs G bS i x w hi tx sh pw aw sa sg fd fa rr lo mk ea pt lb lc eb mb pb y q ra) (wa pa aa : Nat → Nat) (N L T : Nat → Int) (F : Nat → Int → Int) (c n lo2 z ln a b o fc m nh ec es cm pc be ap fo wr sb : Int) (f ch g P S E T2 U Nn Ec A wd Cn vv pp kd nb Tm ie my su fi mo ish ends : Int → Int) (hR : REL wa pa aa N L T F c n lo2 z ln a b o fc m nh ec es cm pc be ap fo wr sb f ch g P S E T2 U Nn Ec A wd Cn vv pp kd nb Tm ie my su fi mo ish ends) : V K cs 347 [some (.ref bS), some (.ref x), some (.ref y), some (.int (iZ i)), none, none, none, none] [] (WD G x w hi tx sh pw aw sa sg fd fa rr lo mk ea pt lb lc eb mb pb y q ra wa pa aa N L T F c n lo2 z ln a b o fc m nh ec es cm pc be ap fo wr sb f ch g P S E T2 U Nn Ec A wd Cn vv pp kd nb Tm ie my su fi mo ish ends) := by
  obtain ⟨hW, hH, hC, hS⟩ := hR
  obtain ⟨w0, w1, w2, w3, w4, w5⟩ := WR_n hW
  have hC1 := hC.1
  have hH1 := hH.1
  obtain ⟨s1, s2, s3, s4, s5, s6, s7, s8, s9, s10, s11, s12, s13, s14, s15, s16, s17⟩ := hS
  have hS : SHR m nh ec es cm pc be Nn Ec wd A Cn ie my su fi mo := ⟨s1, s2, s3, s4, s5, s6, s7, s8, s9, s10, s11, s12, s13, s14, s15, s16, s17⟩
  have z1 := hsc (i + 1)
  have z2 := hsc (i + 2)
  have z3 := hsc (i + 3)
  have z4 := hsc (i + 4)
  refine V_aload_n h (dk dd_L_law_3 21 rfl) rfl get1 ?_
  refine V_callVc h st1 ci_L_45 (pk_c get0 (pk_c get21 (pk_c get22 (pk_c get23 (pk_c get24 pk_n))))) rfl 0 get0 (m_X11_clear l G _ _ _ _ _ _ _ _ _ _ _ _ _ _ _ ) rfl rfl rfl (by decide) (Nat.le_of_ble_eq_true rfl) ⟨rfl, rfl⟩ hcs (dk dd_L_law_3 22 rfl) sk1 (sm_c set0 (sm_c set21 (sm_c set22 (sm_c set23 (sm_c set24 sm_n))))) ?_
  refine V_aload_n h (dk dd_L_law_3 23 rfl) rfl get2 ?_
  refine V_callVc h st1 ci_L_48 (pk_c get36 pk_n) rfl 36 get36 (m_X12_clear l G _ _ _ _ _ _ _ _ _ _ _ ) rfl rfl rfl (by decide) (Nat.le_of_ble_eq_true rfl) ⟨rfl, rfl⟩ hcs (dk dd_L_law_3 24 rfl) sk1 (sm_c set36 sm_n) ?_
  refine V_icmp_same (tgt := 810) h (dk dd_L_law_3 25 rfl) rfl ?_
  exact hk _ _ _ _ _ _ _ _ _ _ _ _ _ _ _ _ _ _ _ _ _ _ _ _ _ _ _ _ _ _ _ _ _ _ _ _ _ _ _ _ _ _ _ _ _ _ _ _ _ _ _ _ ⟨hW, hH, clear_ok, hS⟩

