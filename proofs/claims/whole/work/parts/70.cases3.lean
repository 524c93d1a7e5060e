/-! the law: its cases, the rest -/
set_option maxHeartbeats 8000000 in
set_option maxRecDepth 100000 in
theorem lc_10 {l : Launch} {G : GT} {ad : AdT} {nm : String} {K : KT} {cs : Nat × Nat} (h : Good l G RL nm cL_law 8 room_1 K) (hSt : StrK ad K) {bS Ln : Nat} {sc : Int → Int} (hSc : ScrK bS Ln sc K) (hsc : ∀ j, R32 (sc j)) (hcs : cs.1 ≤ room_1.cells ∧ cs.2 ≤ room_1.slots) {x w hi tx sh pw aw sa sg fd fa rr lo mk ea pt lb lc eb mb pb y : Nat} {q : Nat → Nat} {ra : Int → Nat} (i : Int) (hix : 0 ≤ i ∧ i + 4 < (Ln : Int) ∧ (Ln : Int) ≤ 2560) (hk : LB K cs G bS i x w hi tx sh pw aw sa sg fd fa rr lo mk ea pt lb lc eb mb pb y q ra) (wa pa aa : Nat → Nat) (N L T : Nat → Int) (F : Nat → Int → Int) (c n lo2 z ln a b o fc m nh ec es cm pc be ap fo wr sb : Int) (f ch g P S E T2 U Nn Ec A wd Cn vv pp kd nb Tm ie my su fi mo ish ends : Int → Int) (hR : REL wa pa aa N L T F c n lo2 z ln a b o fc m nh ec es cm pc be ap fo wr sb f ch g P S E T2 U Nn Ec A wd Cn vv pp kd nb Tm ie my su fi mo ish ends) : V K cs 416 [some (.ref bS), some (.ref x), some (.ref y), some (.int (iZ i)), none, none, none, none] [] (WD G x w hi tx sh pw aw sa sg fd fa rr lo mk ea pt lb lc eb mb pb y q ra wa pa aa N L T F c n lo2 z ln a b o fc m nh ec es cm pc be ap fo wr sb f ch g P S E T2 U Nn Ec A wd Cn vv pp kd nb Tm ie my su fi mo ish ends) := by
  obtain ⟨hW, hH, hC, hS⟩ := hR
  obtain ⟨w0, w1, w2, w3, w4, w5⟩ := WR_n hW
  have hC1 := hC.1
  have hH1 := hH.1
  obtain ⟨s1, s2, s3, s4, s5, s6, s7, s8, s9, s10, s11, s12, s13, s14, s15, s16, s17⟩ := hS
  have hS : SHR m nh ec es cm pc be Nn Ec wd A Cn ie my su fi mo := ⟨s1, s2, s3, s4, s5, s6, s7, s8, s9, s10, s11, s12, s13, s14, s15, s16, s17⟩
  have z1 := hsc (i + 1)
  have z2 := hsc (i + 2)
  have z3 := hsc (i + 3)
  have z4 := hsc (i + 4)
  refine V_aload_n h (dk dd_L_law_4 22 rfl) rfl get1 ?_
  refine V_callVc h st1 ci_L_58 (pk_c get0 (pk_c get25 (pk_c get27 (pk_c get28 (pk_c get29 pk_n))))) rfl 0 get0 (m_X11_hits l G _ _ _ _ _ _ _ _ _ _ _ _ _ _ _ _ _ _ ) rfl rfl rfl (by decide) (Nat.le_of_ble_eq_true rfl) ⟨rfl, rfl⟩ hcs (dk dd_L_law_4 23 rfl) sk1 (sm_c set0 (sm_c set25 (sm_c set27 (sm_c set28 (sm_c set29 sm_n))))) ?_
  refine V_aload_n h (dk dd_L_law_4 24 rfl) rfl get2 ?_
  refine V_callVc h st1 ci_L_61 (pk_c get36 pk_n) rfl 36 get36 (m_X12_hits l G _ _ _ _ _ _ _ _ _ _ _ ) rfl rfl rfl (by decide) (Nat.le_of_ble_eq_true rfl) ⟨rfl, rfl⟩ hcs (dk dd_L_law_4 25 rfl) sk1 (sm_c set36 sm_n) ?_
  refine V_icmp_same (tgt := 810) h (dk dd_L_law_4 26 rfl) rfl ?_
  exact hk _ _ _ _ _ _ _ _ _ _ _ _ _ _ _ _ _ _ _ _ _ _ _ _ _ _ _ _ _ _ _ _ _ _ _ _ _ _ _ _ _ _ _ _ _ _ _ _ _ _ _ _ ⟨hW, hH, hC, hS⟩

set_option maxHeartbeats 8000000 in
set_option maxRecDepth 100000 in
theorem lc_11 {l : Launch} {G : GT} {ad : AdT} {nm : String} {K : KT} {cs : Nat × Nat} (h : Good l G RL nm cL_law 8 room_1 K) (hSt : StrK ad K) {bS Ln : Nat} {sc : Int → Int} (hSc : ScrK bS Ln sc K) (hsc : ∀ j, R32 (sc j)) (hcs : cs.1 ≤ room_1.cells ∧ cs.2 ≤ room_1.slots) {x w hi tx sh pw aw sa sg fd fa rr lo mk ea pt lb lc eb mb pb y : Nat} {q : Nat → Nat} {ra : Int → Nat} (i : Int) (hix : 0 ≤ i ∧ i + 4 < (Ln : Int) ∧ (Ln : Int) ≤ 2560) (hk : LB K cs G bS i x w hi tx sh pw aw sa sg fd fa rr lo mk ea pt lb lc eb mb pb y q ra) (wa pa aa : Nat → Nat) (N L T : Nat → Int) (F : Nat → Int → Int) (c n lo2 z ln a b o fc m nh ec es cm pc be ap fo wr sb : Int) (f ch g P S E T2 U Nn Ec A wd Cn vv pp kd nb Tm ie my su fi mo ish ends : Int → Int) (hR : REL wa pa aa N L T F c n lo2 z ln a b o fc m nh ec es cm pc be ap fo wr sb f ch g P S E T2 U Nn Ec A wd Cn vv pp kd nb Tm ie my su fi mo ish ends) : V K cs 429 [some (.ref bS), some (.ref x), some (.ref y), some (.int (iZ i)), none, none, none, none] [] (WD G x w hi tx sh pw aw sa sg fd fa rr lo mk ea pt lb lc eb mb pb y q ra wa pa aa N L T F c n lo2 z ln a b o fc m nh ec es cm pc be ap fo wr sb f ch g P S E T2 U Nn Ec A wd Cn vv pp kd nb Tm ie my su fi mo ish ends) := by
  obtain ⟨hW, hH, hC, hS⟩ := hR
  obtain ⟨w0, w1, w2, w3, w4, w5⟩ := WR_n hW
  have hC1 := hC.1
  have hH1 := hH.1
  obtain ⟨s1, s2, s3, s4, s5, s6, s7, s8, s9, s10, s11, s12, s13, s14, s15, s16, s17⟩ := hS
  have hS : SHR m nh ec es cm pc be Nn Ec wd A Cn ie my su fi mo := ⟨s1, s2, s3, s4, s5, s6, s7, s8, s9, s10, s11, s12, s13, s14, s15, s16, s17⟩
  have z1 := hsc (i + 1)
  have z2 := hsc (i + 2)
  have z3 := hsc (i + 3)
  have z4 := hsc (i + 4)
  refine V_aload_n h (dk dd_L_law_4 29 rfl) rfl get1 ?_
  refine V_aload_n h (dk dd_L_law_4 30 rfl) rfl get0 ?_
  refine V_iload_n h (dk dd_L_law_4 31 rfl) rfl get3 ?_
  refine V_iconst h (dk dd_L_law_4 32 rfl) ?_
  refine V_iadd h (dk dd_L_law_4 33 rfl) ?_
  refine V_sld h hSc (by omega) (dk dd_L_law_4 34 rfl) ?_
  refine V_aload_n h (dk dd_L_law_4 35 rfl) rfl get0 ?_
  refine V_iload_n h (dk dd_L_law_4 36 rfl) rfl get3 ?_
  refine V_iconst h (dk dd_L_law_4 37 rfl) ?_
  refine V_iadd h (dk dd_L_law_4 38 rfl) ?_
  refine V_sld h hSc (by omega) (dk dd_L_law_4 39 rfl) ?_
  refine V_callVc h st3 ci_L_62 (pk_c get0 (pk_c get25 (pk_c get27 (pk_c get28 (pk_c get29 pk_n))))) rfl 0 get0 (m_X11_hit l G _ _ _ _ _ _ _ _ _ _ _ _ _ _ _ _ _ _ _ _ (by omega) (by omega) (by omega)) rfl rfl rfl (by decide) (Nat.le_of_ble_eq_true rfl) ⟨rfl, rfl⟩ hcs (dk dd_L_law_4 40 rfl) sk1 (sm_c set0 (sm_c set25 (sm_c set27 (sm_c set28 (sm_c set29 sm_n))))) ?_
  refine V_aload_n h (dk dd_L_law_4 41 rfl) rfl get2 ?_
  refine V_aload_n h (dk dd_L_law_4 42 rfl) rfl get0 ?_
  refine V_iload_n h (dk dd_L_law_4 43 rfl) rfl get3 ?_
  refine V_iconst h (dk dd_L_law_4 44 rfl) ?_
  refine V_iadd h (dk dd_L_law_4 45 rfl) ?_
  refine V_sld h hSc (by omega) (dk dd_L_law_4 46 rfl) ?_
  refine V_aload_n h (dk dd_L_law_4 47 rfl) rfl get0 ?_
  refine V_iload_n h (dk dd_L_law_4 48 rfl) rfl get3 ?_
  refine V_iconst h (dk dd_L_law_4 49 rfl) ?_
  refine V_iadd h (dk dd_L_law_5 0 rfl) ?_
  refine V_sld h hSc (by omega) (dk dd_L_law_5 1 rfl) ?_
  refine V_callVc h st3 ci_L_66 (pk_c get36 (pk_c get47 pk_n)) rfl 36 get36 (m_X12_hit l G _ _ _ _ _ _ _ _ _ _ _ _ _ _ (by omega) (by omega) (by omega)) rfl rfl rfl (by decide) (Nat.le_of_ble_eq_true rfl) ⟨rfl, rfl⟩ hcs (dk dd_L_law_5 2 rfl) sk1 (sm_c set36 (sm_c set47 sm_n)) ?_
  refine V_lcmp_same h (dk dd_L_law_5 3 rfl) ?_
  refine V_if_eq (tgt := 810) h (dk dd_L_law_5 4 rfl) rfl (by decide) (fun _ => ?_) (fun c => absurd rfl c)
  exact hk _ _ _ _ _ _ _ _ _ _ _ _ _ _ _ _ _ _ _ _ _ _ _ _ _ _ _ _ _ _ _ _ _ _ _ _ _ _ _ _ _ _ _ _ _ _ _ _ _ _ _ _ ⟨hW, hH, hC, hS⟩

set_option maxHeartbeats 8000000 in
set_option maxRecDepth 100000 in
theorem lc_12 {l : Launch} {G : GT} {ad : AdT} {nm : String} {K : KT} {cs : Nat × Nat} (h : Good l G RL nm cL_law 8 room_1 K) (hSt : StrK ad K) {bS Ln : Nat} {sc : Int → Int} (hSc : ScrK bS Ln sc K) (hsc : ∀ j, R32 (sc j)) (hcs : cs.1 ≤ room_1.cells ∧ cs.2 ≤ room_1.slots) {x w hi tx sh pw aw sa sg fd fa rr lo mk ea pt lb lc eb mb pb y : Nat} {q : Nat → Nat} {ra : Int → Nat} (i : Int) (hix : 0 ≤ i ∧ i + 4 < (Ln : Int) ∧ (Ln : Int) ≤ 2560) (hk : LB K cs G bS i x w hi tx sh pw aw sa sg fd fa rr lo mk ea pt lb lc eb mb pb y q ra) (wa pa aa : Nat → Nat) (N L T : Nat → Int) (F : Nat → Int → Int) (c n lo2 z ln a b o fc m nh ec es cm pc be ap fo wr sb : Int) (f ch g P S E T2 U Nn Ec A wd Cn vv pp kd nb Tm ie my su fi mo ish ends : Int → Int) (hR : REL wa pa aa N L T F c n lo2 z ln a b o fc m nh ec es cm pc be ap fo wr sb f ch g P S E T2 U Nn Ec A wd Cn vv pp kd nb Tm ie my su fi mo ish ends) : V K cs 463 [some (.ref bS), some (.ref x), some (.ref y), some (.int (iZ i)), none, none, none, none] [] (WD G x w hi tx sh pw aw sa sg fd fa rr lo mk ea pt lb lc eb mb pb y q ra wa pa aa N L T F c n lo2 z ln a b o fc m nh ec es cm pc be ap fo wr sb f ch g P S E T2 U Nn Ec A wd Cn vv pp kd nb Tm ie my su fi mo ish ends) := by
  obtain ⟨hW, hH, hC, hS⟩ := hR
  obtain ⟨w0, w1, w2, w3, w4, w5⟩ := WR_n hW
  have hC1 := hC.1
  have hH1 := hH.1
  obtain ⟨s1, s2, s3, s4, s5, s6, s7, s8, s9, s10, s11, s12, s13, s14, s15, s16, s17⟩ := hS
  have hS : SHR m nh ec es cm pc be Nn Ec wd A Cn ie my su fi mo := ⟨s1, s2, s3, s4, s5, s6, s7, s8, s9, s10, s11, s12, s13, s14, s15, s16, s17⟩
  have z1 := hsc (i + 1)
  have z2 := hsc (i + 2)
  have z3 := hsc (i + 3)
  have z4 := hsc (i + 4)
  refine V_aload_n h (dk dd_L_law_5 7 rfl) rfl get1 ?_
  refine V_callVc h st1 ci_L_67 (pk_c get0 (pk_c get25 pk_n)) rfl 0 get0 (m_X11_rays l G _ _ _ _ _ _ _ _ _ _ _ ) rfl rfl rfl (by decide) (Nat.le_of_ble_eq_true rfl) ⟨rfl, rfl⟩ hcs (dk dd_L_law_5 8 rfl) sk1 (sm_c set0 (sm_c set25 sm_n)) ?_
  refine V_aload_n h (dk dd_L_law_5 9 rfl) rfl get2 ?_
  refine V_callVc h st1 ci_L_70 (pk_c get36 pk_n) rfl 36 get36 (m_X12_rays l G _ _ _ _ _ _ _ _ _ _ _ ) rfl rfl rfl (by decide) (Nat.le_of_ble_eq_true rfl) ⟨rfl, rfl⟩ hcs (dk dd_L_law_5 10 rfl) sk1 (sm_c set36 sm_n) ?_
  refine V_icmp_same (tgt := 810) h (dk dd_L_law_5 11 rfl) rfl ?_
  exact hk _ _ _ _ _ _ _ _ _ _ _ _ _ _ _ _ _ _ _ _ _ _ _ _ _ _ _ _ _ _ _ _ _ _ _ _ _ _ _ _ _ _ _ _ _ _ _ _ _ _ _ _ ⟨hW, hH, hC, hS⟩

set_option maxHeartbeats 8000000 in
set_option maxRecDepth 100000 in
theorem lc_13 {l : Launch} {G : GT} {ad : AdT} {nm : String} {K : KT} {cs : Nat × Nat} (h : Good l G RL nm cL_law 8 room_1 K) (hSt : StrK ad K) {bS Ln : Nat} {sc : Int → Int} (hSc : ScrK bS Ln sc K) (hsc : ∀ j, R32 (sc j)) (hcs : cs.1 ≤ room_1.cells ∧ cs.2 ≤ room_1.slots) {x w hi tx sh pw aw sa sg fd fa rr lo mk ea pt lb lc eb mb pb y : Nat} {q : Nat → Nat} {ra : Int → Nat} (i : Int) (hix : 0 ≤ i ∧ i + 4 < (Ln : Int) ∧ (Ln : Int) ≤ 2560) (hk : LB K cs G bS i x w hi tx sh pw aw sa sg fd fa rr lo mk ea pt lb lc eb mb pb y q ra) (wa pa aa : Nat → Nat) (N L T : Nat → Int) (F : Nat → Int → Int) (c n lo2 z ln a b o fc m nh ec es cm pc be ap fo wr sb : Int) (f ch g P S E T2 U Nn Ec A wd Cn vv pp kd nb Tm ie my su fi mo ish ends : Int → Int) (hR : REL wa pa aa N L T F c n lo2 z ln a b o fc m nh ec es cm pc be ap fo wr sb f ch g P S E T2 U Nn Ec A wd Cn vv pp kd nb Tm ie my su fi mo ish ends) : V K cs 476 [some (.ref bS), some (.ref x), some (.ref y), some (.int (iZ i)), none, none, none, none] [] (WD G x w hi tx sh pw aw sa sg fd fa rr lo mk ea pt lb lc eb mb pb y q ra wa pa aa N L T F c n lo2 z ln a b o fc m nh ec es cm pc be ap fo wr sb f ch g P S E T2 U Nn Ec A wd Cn vv pp kd nb Tm ie my su fi mo ish ends) := by
  obtain ⟨hW, hH, hC, hS⟩ := hR
  obtain ⟨w0, w1, w2, w3, w4, w5⟩ := WR_n hW
  have hC1 := hC.1
  have hH1 := hH.1
  obtain ⟨s1, s2, s3, s4, s5, s6, s7, s8, s9, s10, s11, s12, s13, s14, s15, s16, s17⟩ := hS
  have hS : SHR m nh ec es cm pc be Nn Ec wd A Cn ie my su fi mo := ⟨s1, s2, s3, s4, s5, s6, s7, s8, s9, s10, s11, s12, s13, s14, s15, s16, s17⟩
  have z1 := hsc (i + 1)
  have z2 := hsc (i + 2)
  have z3 := hsc (i + 3)
  have z4 := hsc (i + 4)
  refine V_aload_n h (dk dd_L_law_5 14 rfl) rfl get1 ?_
  refine V_callVc h st1 ci_L_71 (pk_c get0 (pk_c get25 (pk_c get30 (pk_c get31 pk_n)))) rfl 0 get0 (m_X11_coverage l G _ _ _ _ _ _ _ _ _ _ _ _ _ _ ) rfl rfl rfl (by decide) (Nat.le_of_ble_eq_true rfl) ⟨rfl, rfl⟩ hcs (dk dd_L_law_5 15 rfl) sk1 (sm_c set0 (sm_c set25 (sm_c set30 (sm_c set31 sm_n)))) ?_
  refine V_aload_n h (dk dd_L_law_5 16 rfl) rfl get2 ?_
  refine V_callVc h st1 ci_L_74 (pk_c get36 (pk_c get47 (pk_c get53 pk_n))) rfl 36 get36 (m_X12_coverage l G _ _ _ _ _ _ _ _ _ _ _ _ _ (by omega) (fun j a b => (s9 j a b).1)) rfl rfl rfl (by decide) (Nat.le_of_ble_eq_true rfl) ⟨rfl, rfl⟩ hcs (dk dd_L_law_5 17 rfl) sk1 (sm_c set36 (sm_c set47 (sm_c set53 sm_n))) ?_
  rw [← s13 ish]
  refine V_icmp_same (tgt := 810) h (dk dd_L_law_5 18 rfl) rfl ?_
  exact hk _ _ _ _ _ _ _ _ _ _ _ _ _ _ _ _ _ _ _ _ _ _ _ _ _ _ _ _ _ _ _ _ _ _ _ _ _ _ _ _ _ _ _ _ _ _ _ _ _ _ _ _ ⟨hW, hH, hC, hS⟩

set_option maxHeartbeats 8000000 in
set_option maxRecDepth 100000 in
theorem lc_14 {l : Launch} {G : GT} {ad : AdT} {nm : String} {K : KT} {cs : Nat × Nat} (h : Good l G RL nm cL_law 8 room_1 K) (hSt : StrK ad K) {bS Ln : Nat} {sc : Int → Int} (hSc : ScrK bS Ln sc K) (hsc : ∀ j, R32 (sc j)) (hcs : cs.1 ≤ room_1.cells ∧ cs.2 ≤ room_1.slots) {x w hi tx sh pw aw sa sg fd fa rr lo mk ea pt lb lc eb mb pb y : Nat} {q : Nat → Nat} {ra : Int → Nat} (i : Int) (hix : 0 ≤ i ∧ i + 4 < (Ln : Int) ∧ (Ln : Int) ≤ 2560) (hk : LB K cs G bS i x w hi tx sh pw aw sa sg fd fa rr lo mk ea pt lb lc eb mb pb y q ra) (wa pa aa : Nat → Nat) (N L T : Nat → Int) (F : Nat → Int → Int) (c n lo2 z ln a b o fc m nh ec es cm pc be ap fo wr sb : Int) (f ch g P S E T2 U Nn Ec A wd Cn vv pp kd nb Tm ie my su fi mo ish ends : Int → Int) (hR : REL wa pa aa N L T F c n lo2 z ln a b o fc m nh ec es cm pc be ap fo wr sb f ch g P S E T2 U Nn Ec A wd Cn vv pp kd nb Tm ie my su fi mo ish ends) : V K cs 489 [some (.ref bS), some (.ref x), some (.ref y), some (.int (iZ i)), none, none, none, none] [] (WD G x w hi tx sh pw aw sa sg fd fa rr lo mk ea pt lb lc eb mb pb y q ra wa pa aa N L T F c n lo2 z ln a b o fc m nh ec es cm pc be ap fo wr sb f ch g P S E T2 U Nn Ec A wd Cn vv pp kd nb Tm ie my su fi mo ish ends) := by
  obtain ⟨hW, hH, hC, hS⟩ := hR
  obtain ⟨w0, w1, w2, w3, w4, w5⟩ := WR_n hW
  have hC1 := hC.1
  have hH1 := hH.1
  obtain ⟨s1, s2, s3, s4, s5, s6, s7, s8, s9, s10, s11, s12, s13, s14, s15, s16, s17⟩ := hS
  have hS : SHR m nh ec es cm pc be Nn Ec wd A Cn ie my su fi mo := ⟨s1, s2, s3, s4, s5, s6, s7, s8, s9, s10, s11, s12, s13, s14, s15, s16, s17⟩
  have z1 := hsc (i + 1)
  have z2 := hsc (i + 2)
  have z3 := hsc (i + 3)
  have z4 := hsc (i + 4)
  refine V_aload_n h (dk dd_L_law_5 21 rfl) rfl get1 ?_
  refine V_callVc h st1 ci_L_75 (pk_c get0 (pk_c get25 (pk_c get30 (pk_c get31 pk_n)))) rfl 0 get0 (m_X11_gap l G _ _ _ _ _ _ _ _ _ _ _ _ _ _ (by omega) (s4)) rfl rfl rfl (by decide) (Nat.le_of_ble_eq_true rfl) ⟨rfl, rfl⟩ hcs (dk dd_L_law_5 22 rfl) sk1 (sm_c set0 (sm_c set25 (sm_c set30 (sm_c set31 sm_n)))) ?_
  refine V_aload_n h (dk dd_L_law_5 23 rfl) rfl get2 ?_
  refine V_callVc h st1 ci_L_78 (pk_c get36 (pk_c get47 (pk_c get53 pk_n))) rfl 36 get36 (m_X12_gap l G _ _ _ _ _ _ _ _ _ _ _ _ _ (by omega) (fun j a b => (s9 j a b).1)) rfl rfl rfl (by decide) (Nat.le_of_ble_eq_true rfl) ⟨rfl, rfl⟩ hcs (dk dd_L_law_5 24 rfl) sk1 (sm_c set36 (sm_c set47 (sm_c set53 sm_n))) ?_
  rw [← s14 ish]
  refine V_icmp_same (tgt := 810) h (dk dd_L_law_5 25 rfl) rfl ?_
  exact hk _ _ _ _ _ _ _ _ _ _ _ _ _ _ _ _ _ _ _ _ _ _ _ _ _ _ _ _ _ _ _ _ _ _ _ _ _ _ _ _ _ _ _ _ _ _ _ _ _ _ _ _ ⟨hW, hH, hC, hS⟩

set_option maxHeartbeats 8000000 in
set_option maxRecDepth 100000 in
theorem lc_15 {l : Launch} {G : GT} {ad : AdT} {nm : String} {K : KT} {cs : Nat × Nat} (h : Good l G RL nm cL_law 8 room_1 K) (hSt : StrK ad K) {bS Ln : Nat} {sc : Int → Int} (hSc : ScrK bS Ln sc K) (hsc : ∀ j, R32 (sc j)) (hcs : cs.1 ≤ room_1.cells ∧ cs.2 ≤ room_1.slots) {x w hi tx sh pw aw sa sg fd fa rr lo mk ea pt lb lc eb mb pb y : Nat} {q : Nat → Nat} {ra : Int → Nat} (i : Int) (hix : 0 ≤ i ∧ i + 4 < (Ln : Int) ∧ (Ln : Int) ≤ 2560) (hk : LB K cs G bS i x w hi tx sh pw aw sa sg fd fa rr lo mk ea pt lb lc eb mb pb y q ra) (wa pa aa : Nat → Nat) (N L T : Nat → Int) (F : Nat → Int → Int) (c n lo2 z ln a b o fc m nh ec es cm pc be ap fo wr sb : Int) (f ch g P S E T2 U Nn Ec A wd Cn vv pp kd nb Tm ie my su fi mo ish ends : Int → Int) (hR : REL wa pa aa N L T F c n lo2 z ln a b o fc m nh ec es cm pc be ap fo wr sb f ch g P S E T2 U Nn Ec A wd Cn vv pp kd nb Tm ie my su fi mo ish ends) : V K cs 502 [some (.ref bS), some (.ref x), some (.ref y), some (.int (iZ i)), none, none, none, none] [] (WD G x w hi tx sh pw aw sa sg fd fa rr lo mk ea pt lb lc eb mb pb y q ra wa pa aa N L T F c n lo2 z ln a b o fc m nh ec es cm pc be ap fo wr sb f ch g P S E T2 U Nn Ec A wd Cn vv pp kd nb Tm ie my su fi mo ish ends) := by
  obtain ⟨hW, hH, hC, hS⟩ := hR
  obtain ⟨w0, w1, w2, w3, w4, w5⟩ := WR_n hW
  have hC1 := hC.1
  have hH1 := hH.1
  obtain ⟨s1, s2, s3, s4, s5, s6, s7, s8, s9, s10, s11, s12, s13, s14, s15, s16, s17⟩ := hS
  have hS : SHR m nh ec es cm pc be Nn Ec wd A Cn ie my su fi mo := ⟨s1, s2, s3, s4, s5, s6, s7, s8, s9, s10, s11, s12, s13, s14, s15, s16, s17⟩
  have z1 := hsc (i + 1)
  have z2 := hsc (i + 2)
  have z3 := hsc (i + 3)
  have z4 := hsc (i + 4)
  refine V_aload_n h (dk dd_L_law_5 28 rfl) rfl get1 ?_
  refine V_aload_n h (dk dd_L_law_5 29 rfl) rfl get0 ?_
  refine V_iload_n h (dk dd_L_law_5 30 rfl) rfl get3 ?_
  refine V_iconst h (dk dd_L_law_5 31 rfl) ?_
  refine V_iadd h (dk dd_L_law_5 32 rfl) ?_
  refine V_sld h hSc (by omega) (dk dd_L_law_5 33 rfl) ?_
  refine V_aload_n h (dk dd_L_law_5 34 rfl) rfl get0 ?_
  refine V_iload_n h (dk dd_L_law_5 35 rfl) rfl get3 ?_
  refine V_iconst h (dk dd_L_law_5 36 rfl) ?_
  refine V_iadd h (dk dd_L_law_5 37 rfl) ?_
  refine V_sld h hSc (by omega) (dk dd_L_law_5 38 rfl) ?_
  refine V_callVc h st3 ci_L_79 (pk_c get0 (pk_c get25 (pk_c get32 (pk_c get33 pk_n)))) rfl 0 get0 (m_X11_heard l G _ _ _ _ _ _ _ _ _ _ _ _ _ _ _ (by omega) (by omega)) rfl rfl rfl (by decide) (Nat.le_of_ble_eq_true rfl) ⟨rfl, rfl⟩ hcs (dk dd_L_law_5 39 rfl) sk1 (sm_c set0 (sm_c set25 (sm_c set32 (sm_c set33 sm_n)))) ?_
  refine V_aload_n h (dk dd_L_law_5 40 rfl) rfl get2 ?_
  refine V_aload_n h (dk dd_L_law_5 41 rfl) rfl get0 ?_
  refine V_iload_n h (dk dd_L_law_5 42 rfl) rfl get3 ?_
  refine V_iconst h (dk dd_L_law_5 43 rfl) ?_
  refine V_iadd h (dk dd_L_law_5 44 rfl) ?_
  refine V_sld h hSc (by omega) (dk dd_L_law_5 45 rfl) ?_
  refine V_aload_n h (dk dd_L_law_5 46 rfl) rfl get0 ?_
  refine V_iload_n h (dk dd_L_law_5 47 rfl) rfl get3 ?_
  refine V_iconst h (dk dd_L_law_5 48 rfl) ?_
  refine V_iadd h (dk dd_L_law_5 49 rfl) ?_
  refine V_sld h hSc (by omega) (dk dd_L_law_6 0 rfl) ?_
  refine V_callVc h st3 ci_L_82 (pk_c get36 (pk_c get49 (pk_c get50 (pk_c get51 (pk_c get52 pk_n))))) rfl 36 get36 (m_X12_heard l G _ _ _ _ _ _ _ _ _ _ _ _ _ _ _ _ _ (by omega) (by omega) (s11)) rfl rfl rfl (by decide) (Nat.le_of_ble_eq_true rfl) ⟨rfl, rfl⟩ hcs (dk dd_L_law_6 1 rfl) sk1 (sm_c set36 (sm_c set49 (sm_c set50 (sm_c set51 (sm_c set52 sm_n))))) ?_
  rw [← s15]
  refine V_lcmp_same h (dk dd_L_law_6 2 rfl) ?_
  refine V_if_eq (tgt := 810) h (dk dd_L_law_6 3 rfl) rfl (by decide) (fun _ => ?_) (fun c => absurd rfl c)
  exact hk _ _ _ _ _ _ _ _ _ _ _ _ _ _ _ _ _ _ _ _ _ _ _ _ _ _ _ _ _ _ _ _ _ _ _ _ _ _ _ _ _ _ _ _ _ _ _ _ _ _ _ _ ⟨hW, hH, hC, hS⟩

set_option maxHeartbeats 8000000 in
set_option maxRecDepth 100000 in
theorem lc_16 {l : Launch} {G : GT} {ad : AdT} {nm : String} {K : KT} {cs : Nat × Nat} (h : Good l G RL nm cL_law 8 room_1 K) (hSt : StrK ad K) {bS Ln : Nat} {sc : Int → Int} (hSc : ScrK bS Ln sc K) (hsc : ∀ j, R32 (sc j)) (hcs : cs.1 ≤ room_1.cells ∧ cs.2 ≤ room_1.slots) {x w hi tx sh pw aw sa sg fd fa rr lo mk ea pt lb lc eb mb pb y : Nat} {q : Nat → Nat} {ra : Int → Nat} (i : Int) (hix : 0 ≤ i ∧ i + 4 < (Ln : Int) ∧ (Ln : Int) ≤ 2560) (hk : LB K cs G bS i x w hi tx sh pw aw sa sg fd fa rr lo mk ea pt lb lc eb mb pb y q ra) (wa pa aa : Nat → Nat) (N L T : Nat → Int) (F : Nat → Int → Int) (c n lo2 z ln a b o fc m nh ec es cm pc be ap fo wr sb : Int) (f ch g P S E T2 U Nn Ec A wd Cn vv pp kd nb Tm ie my su fi mo ish ends : Int → Int) (hR : REL wa pa aa N L T F c n lo2 z ln a b o fc m nh ec es cm pc be ap fo wr sb f ch g P S E T2 U Nn Ec A wd Cn vv pp kd nb Tm ie my su fi mo ish ends) : V K cs 536 [some (.ref bS), some (.ref x), some (.ref y), some (.int (iZ i)), none, none, none, none] [] (WD G x w hi tx sh pw aw sa sg fd fa rr lo mk ea pt lb lc eb mb pb y q ra wa pa aa N L T F c n lo2 z ln a b o fc m nh ec es cm pc be ap fo wr sb f ch g P S E T2 U Nn Ec A wd Cn vv pp kd nb Tm ie my su fi mo ish ends) := by
  obtain ⟨hW, hH, hC, hS⟩ := hR
  obtain ⟨w0, w1, w2, w3, w4, w5⟩ := WR_n hW
  have hC1 := hC.1
  have hH1 := hH.1
  obtain ⟨s1, s2, s3, s4, s5, s6, s7, s8, s9, s10, s11, s12, s13, s14, s15, s16, s17⟩ := hS
  have hS : SHR m nh ec es cm pc be Nn Ec wd A Cn ie my su fi mo := ⟨s1, s2, s3, s4, s5, s6, s7, s8, s9, s10, s11, s12, s13, s14, s15, s16, s17⟩
  have z1 := hsc (i + 1)
  have z2 := hsc (i + 2)
  have z3 := hsc (i + 3)
  have z4 := hsc (i + 4)
  refine V_aload_n h (dk dd_L_law_6 6 rfl) rfl get1 ?_
  refine V_aload_n h (dk dd_L_law_6 7 rfl) rfl get0 ?_
  refine V_iload_n h (dk dd_L_law_6 8 rfl) rfl get3 ?_
  refine V_iconst h (dk dd_L_law_6 9 rfl) ?_
  refine V_iadd h (dk dd_L_law_6 10 rfl) ?_
  refine V_sld h hSc (by omega) (dk dd_L_law_6 11 rfl) ?_
  refine V_callVc h st2 ci_L_83 (pk_c get0 (pk_c get25 (pk_c get27 (pk_c get28 (pk_c get29 pk_n))))) rfl 0 get0 (m_X11_echo l G _ _ _ _ _ _ _ _ _ _ _ _ _ _ _ _ _ _ _ (by omega) (by omega)) rfl rfl rfl (by decide) (Nat.le_of_ble_eq_true rfl) ⟨rfl, rfl⟩ hcs (dk dd_L_law_6 12 rfl) sk1 (sm_c set0 (sm_c set25 (sm_c set27 (sm_c set28 (sm_c set29 sm_n))))) ?_
  refine V_aload_n h (dk dd_L_law_6 13 rfl) rfl get2 ?_
  refine V_aload_n h (dk dd_L_law_6 14 rfl) rfl get0 ?_
  refine V_iload_n h (dk dd_L_law_6 15 rfl) rfl get3 ?_
  refine V_iconst h (dk dd_L_law_6 16 rfl) ?_
  refine V_iadd h (dk dd_L_law_6 17 rfl) ?_
  refine V_sld h hSc (by omega) (dk dd_L_law_6 18 rfl) ?_
  refine V_callVc h st2 ci_L_86 (pk_c get36 (pk_c get48 pk_n)) rfl 36 get36 (m_X12_echo l G _ _ _ _ _ _ _ _ _ _ _ _ _ (by omega) (by omega) (fun j _ _ => s12 j)) rfl rfl rfl (by decide) (Nat.le_of_ble_eq_true rfl) ⟨rfl, rfl⟩ hcs (dk dd_L_law_6 19 rfl) sk1 (sm_c set36 (sm_c set48 sm_n)) ?_
  rw [← s16]
  refine V_icmp_same (tgt := 810) h (dk dd_L_law_6 20 rfl) rfl ?_
  exact hk _ _ _ _ _ _ _ _ _ _ _ _ _ _ _ _ _ _ _ _ _ _ _ _ _ _ _ _ _ _ _ _ _ _ _ _ _ _ _ _ _ _ _ _ _ _ _ _ _ _ _ _ ⟨hW, hH, hC, hS⟩

set_option maxHeartbeats 8000000 in
set_option maxRecDepth 100000 in
theorem lc_17 {l : Launch} {G : GT} {ad : AdT} {nm : String} {K : KT} {cs : Nat × Nat} (h : Good l G RL nm cL_law 8 room_1 K) (hSt : StrK ad K) {bS Ln : Nat} {sc : Int → Int} (hSc : ScrK bS Ln sc K) (hsc : ∀ j, R32 (sc j)) (hcs : cs.1 ≤ room_1.cells ∧ cs.2 ≤ room_1.slots) {x w hi tx sh pw aw sa sg fd fa rr lo mk ea pt lb lc eb mb pb y : Nat} {q : Nat → Nat} {ra : Int → Nat} (i : Int) (hix : 0 ≤ i ∧ i + 4 < (Ln : Int) ∧ (Ln : Int) ≤ 2560) (hk : LB K cs G bS i x w hi tx sh pw aw sa sg fd fa rr lo mk ea pt lb lc eb mb pb y q ra) (wa pa aa : Nat → Nat) (N L T : Nat → Int) (F : Nat → Int → Int) (c n lo2 z ln a b o fc m nh ec es cm pc be ap fo wr sb : Int) (f ch g P S E T2 U Nn Ec A wd Cn vv pp kd nb Tm ie my su fi mo ish ends : Int → Int) (hR : REL wa pa aa N L T F c n lo2 z ln a b o fc m nh ec es cm pc be ap fo wr sb f ch g P S E T2 U Nn Ec A wd Cn vv pp kd nb Tm ie my su fi mo ish ends) : V K cs 559 [some (.ref bS), some (.ref x), some (.ref y), some (.int (iZ i)), none, none, none, none] [] (WD G x w hi tx sh pw aw sa sg fd fa rr lo mk ea pt lb lc eb mb pb y q ra wa pa aa N L T F c n lo2 z ln a b o fc m nh ec es cm pc be ap fo wr sb f ch g P S E T2 U Nn Ec A wd Cn vv pp kd nb Tm ie my su fi mo ish ends) := by
  obtain ⟨hW, hH, hC, hS⟩ := hR
  obtain ⟨w0, w1, w2, w3, w4, w5⟩ := WR_n hW
  have hC1 := hC.1
  have hH1 := hH.1
  obtain ⟨s1, s2, s3, s4, s5, s6, s7, s8, s9, s10, s11, s12, s13, s14, s15, s16, s17⟩ := hS
  have hS : SHR m nh ec es cm pc be Nn Ec wd A Cn ie my su fi mo := ⟨s1, s2, s3, s4, s5, s6, s7, s8, s9, s10, s11, s12, s13, s14, s15, s16, s17⟩
  have z1 := hsc (i + 1)
  have z2 := hsc (i + 2)
  have z3 := hsc (i + 3)
  have z4 := hsc (i + 4)
  refine V_aload_n h (dk dd_L_law_6 23 rfl) rfl get1 ?_
  refine V_callVc h st1 ci_L_87 (pk_c get0 (pk_c get25 (pk_c get27 (pk_c get28 (pk_c get29 pk_n))))) rfl 0 get0 (m_X11_mean l G _ _ _ _ _ _ _ _ _ _ _ _ _ _ _ _ _ _ (by omega)) rfl rfl rfl (by decide) (Nat.le_of_ble_eq_true rfl) ⟨rfl, rfl⟩ hcs (dk dd_L_law_6 24 rfl) sk1 (sm_c set0 (sm_c set25 (sm_c set27 (sm_c set28 (sm_c set29 sm_n))))) ?_
  refine V_f2d h (dk dd_L_law_6 25 rfl) (mean_ok s1) ?_
  refine V_dstore h (dk dd_L_law_6 26 rfl) (Nat.le_of_ble_eq_true rfl) rfl set4 set5 ?_
  refine V_aload_n h (dk dd_L_law_6 27 rfl) rfl get2 ?_
  refine V_callVc h st1 ci_L_91 (pk_c get36 (pk_c get47 pk_n)) rfl 36 get36 (m_X12_mean l G _ _ _ _ _ _ _ _ _ _ _ _ (by omega)) rfl rfl rfl (by decide) (Nat.le_of_ble_eq_true rfl) ⟨rfl, rfl⟩ hcs (dk dd_L_law_6 28 rfl) sk1 (sm_c set36 (sm_c set47 sm_n)) ?_
  rw [← s8]
  refine V_f2d h (dk dd_L_law_6 29 rfl) (mean_ok s1) ?_
  refine V_dstore h (dk dd_L_law_6 30 rfl) (Nat.le_of_ble_eq_true rfl) rfl set6 set7 ?_
  refine V_dload h (dk dd_L_law_6 31 rfl) get4 ?_
  refine V_dload h (dk dd_L_law_6 32 rfl) get6 ?_
  refine V_dcmp_same h (f2d_ok (mean_ok s1)) (dk dd_L_law_6 33 rfl) ?_
  refine V_if_eq (tgt := 599) h (dk dd_L_law_6 34 rfl) rfl (by decide) (fun _ => ?_) (fun c => absurd rfl c)
  refine V_goto (tgt := 810) h (dk dd_L_law_6 45 rfl) rfl ?_
  refine V_wk (lv' := [some (.ref bS), some (.ref x), some (.ref y), some (.int (iZ i)), none, none, none, none]) (lw_s (lw_s (lw_s (lw_s (lw_o (lw_s (lw_o (lw_s lw_n)))))))) ?_
  exact hk _ _ _ _ _ _ _ _ _ _ _ _ _ _ _ _ _ _ _ _ _ _ _ _ _ _ _ _ _ _ _ _ _ _ _ _ _ _ _ _ _ _ _ _ _ _ _ _ _ _ _ _ ⟨hW, hH, hC, hS⟩

set_option maxHeartbeats 8000000 in
set_option maxRecDepth 100000 in
theorem lc_18 {l : Launch} {G : GT} {ad : AdT} {nm : String} {K : KT} {cs : Nat × Nat} (h : Good l G RL nm cL_law 8 room_1 K) (hSt : StrK ad K) {bS Ln : Nat} {sc : Int → Int} (hSc : ScrK bS Ln sc K) (hsc : ∀ j, R32 (sc j)) (hcs : cs.1 ≤ room_1.cells ∧ cs.2 ≤ room_1.slots) {x w hi tx sh pw aw sa sg fd fa rr lo mk ea pt lb lc eb mb pb y : Nat} {q : Nat → Nat} {ra : Int → Nat} (i : Int) (hix : 0 ≤ i ∧ i + 4 < (Ln : Int) ∧ (Ln : Int) ≤ 2560) (hk : LB K cs G bS i x w hi tx sh pw aw sa sg fd fa rr lo mk ea pt lb lc eb mb pb y q ra) (wa pa aa : Nat → Nat) (N L T : Nat → Int) (F : Nat → Int → Int) (c n lo2 z ln a b o fc m nh ec es cm pc be ap fo wr sb : Int) (f ch g P S E T2 U Nn Ec A wd Cn vv pp kd nb Tm ie my su fi mo ish ends : Int → Int) (hR : REL wa pa aa N L T F c n lo2 z ln a b o fc m nh ec es cm pc be ap fo wr sb f ch g P S E T2 U Nn Ec A wd Cn vv pp kd nb Tm ie my su fi mo ish ends) : V K cs 602 [some (.ref bS), some (.ref x), some (.ref y), some (.int (iZ i)), none, none, none, none] [] (WD G x w hi tx sh pw aw sa sg fd fa rr lo mk ea pt lb lc eb mb pb y q ra wa pa aa N L T F c n lo2 z ln a b o fc m nh ec es cm pc be ap fo wr sb f ch g P S E T2 U Nn Ec A wd Cn vv pp kd nb Tm ie my su fi mo ish ends) := by
  obtain ⟨hW, hH, hC, hS⟩ := hR
  obtain ⟨w0, w1, w2, w3, w4, w5⟩ := WR_n hW
  have hC1 := hC.1
  have hH1 := hH.1
  obtain ⟨s1, s2, s3, s4, s5, s6, s7, s8, s9, s10, s11, s12, s13, s14, s15, s16, s17⟩ := hS
  have hS : SHR m nh ec es cm pc be Nn Ec wd A Cn ie my su fi mo := ⟨s1, s2, s3, s4, s5, s6, s7, s8, s9, s10, s11, s12, s13, s14, s15, s16, s17⟩
  have z1 := hsc (i + 1)
  have z2 := hsc (i + 2)
  have z3 := hsc (i + 3)
  have z4 := hsc (i + 4)
  by_cases hA : 0 ≤ (sc (i + 1)) ∧ (sc (i + 1)) ≤ 200
  · refine V_aload_n h (dk dd_L_law_6 46 rfl) rfl get1 ?_
    refine V_aload_n h (dk dd_L_law_6 47 rfl) rfl get0 ?_
    refine V_iload_n h (dk dd_L_law_6 48 rfl) rfl get3 ?_
    refine V_iconst h (dk dd_L_law_6 49 rfl) ?_
    refine V_iadd h (dk dd_L_law_7 0 rfl) ?_
    refine V_sld h hSc (by omega) (dk dd_L_law_7 1 rfl) ?_
    refine V_callVc h st2 ci_L_92 (pk_c get0 (pk_c get25 (pk_c get34 (pk_c get35 pk_n)))) rfl 0 get0 (m_crossings_ok l G _ _ _ _ _ _ _ _ _ _ _ _ _ _ _ (by omega) (by omega) (s7)) rfl rfl rfl (by decide) (Nat.le_of_ble_eq_true rfl) ⟨rfl, rfl⟩ hcs (dk dd_L_law_7 2 rfl) sk1 (sm_c set0 (sm_c set25 (sm_c set34 (sm_c set35 sm_n)))) ?_
    refine V_aload_n h (dk dd_L_law_7 3 rfl) rfl get2 ?_
    refine V_aload_n h (dk dd_L_law_7 4 rfl) rfl get0 ?_
    refine V_iload_n h (dk dd_L_law_7 5 rfl) rfl get3 ?_
    refine V_iconst h (dk dd_L_law_7 6 rfl) ?_
    refine V_iadd h (dk dd_L_law_7 7 rfl) ?_
    refine V_sld h hSc (by omega) (dk dd_L_law_7 8 rfl) ?_
    refine V_callVc h st2 ci_L_95 (pk_c get36 (pk_c get47 (pk_c get54 pk_n))) rfl 36 get36 (m_mcrossings_ok l G _ _ _ _ _ _ _ _ _ _ _ _ _ _ (by omega) (fun j a b => (s9 j a b).1) (fun j a b => (s9 j a b).2) (by omega) (by omega)) rfl rfl rfl (by decide) (Nat.le_of_ble_eq_true rfl) ⟨rfl, rfl⟩ hcs (dk dd_L_law_7 9 rfl) sk1 (sm_c set36 (sm_c set47 (sm_c set54 sm_n))) ?_
    rw [← s17 (sc (i + 1)) ends hA]
    refine V_icmp_same (tgt := 810) h (dk dd_L_law_7 10 rfl) rfl ?_
    exact hk _ _ _ _ _ _ _ _ _ _ _ _ _ _ _ _ _ _ _ _ _ _ _ _ _ _ _ _ _ _ _ _ _ _ _ _ _ _ _ _ _ _ _ _ _ _ _ _ _ _ _ _ ⟨hW, hH, hC, hS⟩
  · refine V_aload_n h (dk dd_L_law_6 46 rfl) rfl get1 ?_
    refine V_aload_n h (dk dd_L_law_6 47 rfl) rfl get0 ?_
    refine V_iload_n h (dk dd_L_law_6 48 rfl) rfl get3 ?_
    refine V_iconst h (dk dd_L_law_6 49 rfl) ?_
    refine V_iadd h (dk dd_L_law_7 0 rfl) ?_
    refine V_sld h hSc (by omega) (dk dd_L_law_7 1 rfl) ?_
    refine V_callVc h st2 ci_L_92 (pk_c get0 (pk_c get25 (pk_c get34 (pk_c get35 pk_n)))) rfl 0 get0 (m_crossings_bad l G _ _ _ _ _ _ _ _ _ _ _ _ _ _ _ (by omega) (hA)) rfl rfl rfl (by decide) (Nat.le_of_ble_eq_true rfl) ⟨rfl, rfl⟩ hcs (dk dd_L_law_7 2 rfl) sk1 (sm_c set0 (sm_c set25 (sm_c set34 (sm_c set35 sm_n)))) ?_
    refine V_aload_n h (dk dd_L_law_7 3 rfl) rfl get2 ?_
    refine V_aload_n h (dk dd_L_law_7 4 rfl) rfl get0 ?_
    refine V_iload_n h (dk dd_L_law_7 5 rfl) rfl get3 ?_
    refine V_iconst h (dk dd_L_law_7 6 rfl) ?_
    refine V_iadd h (dk dd_L_law_7 7 rfl) ?_
    refine V_sld h hSc (by omega) (dk dd_L_law_7 8 rfl) ?_
    refine V_callVc h st2 ci_L_95 (pk_c get36 pk_n) rfl 36 get36 (m_mcrossings_bad l G _ _ _ _ _ _ _ _ _ _ _ _ (by omega) (hA)) rfl rfl rfl (by decide) (Nat.le_of_ble_eq_true rfl) ⟨rfl, rfl⟩ hcs (dk dd_L_law_7 9 rfl) sk1 (sm_c set36 sm_n) ?_
    refine V_icmp_same (tgt := 810) h (dk dd_L_law_7 10 rfl) rfl ?_
    exact hk _ _ _ _ _ _ _ _ _ _ _ _ _ _ _ _ _ _ _ _ _ _ _ _ _ _ _ _ _ _ _ _ _ _ _ _ _ _ _ _ _ _ _ _ _ _ _ _ _ _ _ _ ⟨hW, hH, hC, hS⟩

set_option maxHeartbeats 8000000 in
set_option maxRecDepth 100000 in
theorem lc_19 {l : Launch} {G : GT} {ad : AdT} {nm : String} {K : KT} {cs : Nat × Nat} (h : Good l G RL nm cL_law 8 room_1 K) (hSt : StrK ad K) {bS Ln : Nat} {sc : Int → Int} (hSc : ScrK bS Ln sc K) (hsc : ∀ j, R32 (sc j)) (hcs : cs.1 ≤ room_1.cells ∧ cs.2 ≤ room_1.slots) {x w hi tx sh pw aw sa sg fd fa rr lo mk ea pt lb lc eb mb pb y : Nat} {q : Nat → Nat} {ra : Int → Nat} (i : Int) (hix : 0 ≤ i ∧ i + 4 < (Ln : Int) ∧ (Ln : Int) ≤ 2560) (hk : LB K cs G bS i x w hi tx sh pw aw sa sg fd fa rr lo mk ea pt lb lc eb mb pb y q ra) (wa pa aa : Nat → Nat) (N L T : Nat → Int) (F : Nat → Int → Int) (c n lo2 z ln a b o fc m nh ec es cm pc be ap fo wr sb : Int) (f ch g P S E T2 U Nn Ec A wd Cn vv pp kd nb Tm ie my su fi mo ish ends : Int → Int) (hR : REL wa pa aa N L T F c n lo2 z ln a b o fc m nh ec es cm pc be ap fo wr sb f ch g P S E T2 U Nn Ec A wd Cn vv pp kd nb Tm ie my su fi mo ish ends) : V K cs 625 [some (.ref bS), some (.ref x), some (.ref y), some (.int (iZ i)), none, none, none, none] [] (WD G x w hi tx sh pw aw sa sg fd fa rr lo mk ea pt lb lc eb mb pb y q ra wa pa aa N L T F c n lo2 z ln a b o fc m nh ec es cm pc be ap fo wr sb f ch g P S E T2 U Nn Ec A wd Cn vv pp kd nb Tm ie my su fi mo ish ends) := by
  obtain ⟨hW, hH, hC, hS⟩ := hR
  obtain ⟨w0, w1, w2, w3, w4, w5⟩ := WR_n hW
  have hC1 := hC.1
  have hH1 := hH.1
  obtain ⟨s1, s2, s3, s4, s5, s6, s7, s8, s9, s10, s11, s12, s13, s14, s15, s16, s17⟩ := hS
  have hS : SHR m nh ec es cm pc be Nn Ec wd A Cn ie my su fi mo := ⟨s1, s2, s3, s4, s5, s6, s7, s8, s9, s10, s11, s12, s13, s14, s15, s16, s17⟩
  have z1 := hsc (i + 1)
  have z2 := hsc (i + 2)
  have z3 := hsc (i + 3)
  have z4 := hsc (i + 4)
  refine V_aload_n h (dk dd_L_law_7 13 rfl) rfl get1 ?_
  refine V_aload_n h (dk dd_L_law_7 14 rfl) rfl get0 ?_
  refine V_iload_n h (dk dd_L_law_7 15 rfl) rfl get3 ?_
  refine V_iconst h (dk dd_L_law_7 16 rfl) ?_
  refine V_iadd h (dk dd_L_law_7 17 rfl) ?_
  refine V_sld h hSc (by omega) (dk dd_L_law_7 18 rfl) ?_
  refine V_callVc h st2 ci_L_96 pk_n rfl 0 get0 (m_X11_time l G _ _ (by omega)) rfl rfl rfl (by decide) (Nat.le_of_ble_eq_true rfl) ⟨rfl, rfl⟩ hcs (dk dd_L_law_7 19 rfl) sk1 sm_n ?_
  refine V_aload_n h (dk dd_L_law_7 20 rfl) rfl get2 ?_
  refine V_aload_n h (dk dd_L_law_7 21 rfl) rfl get0 ?_
  refine V_iload_n h (dk dd_L_law_7 22 rfl) rfl get3 ?_
  refine V_iconst h (dk dd_L_law_7 23 rfl) ?_
  refine V_iadd h (dk dd_L_law_7 24 rfl) ?_
  refine V_sld h hSc (by omega) (dk dd_L_law_7 25 rfl) ?_
  refine V_callVc h st2 ci_L_99 pk_n rfl 36 get36 (m_X12_time l G _ _ (by omega)) rfl rfl rfl (by decide) (Nat.le_of_ble_eq_true rfl) ⟨rfl, rfl⟩ hcs (dk dd_L_law_7 26 rfl) sk1 sm_n ?_
  refine V_icmp_same (tgt := 810) h (dk dd_L_law_7 27 rfl) rfl ?_
  exact hk _ _ _ _ _ _ _ _ _ _ _ _ _ _ _ _ _ _ _ _ _ _ _ _ _ _ _ _ _ _ _ _ _ _ _ _ _ _ _ _ _ _ _ _ _ _ _ _ _ _ _ _ ⟨hW, hH, hC, hS⟩

set_option maxHeartbeats 8000000 in
set_option maxRecDepth 100000 in
theorem lc_20 {l : Launch} {G : GT} {ad : AdT} {nm : String} {K : KT} {cs : Nat × Nat} (h : Good l G RL nm cL_law 8 room_1 K) (hSt : StrK ad K) {bS Ln : Nat} {sc : Int → Int} (hSc : ScrK bS Ln sc K) (hsc : ∀ j, R32 (sc j)) (hcs : cs.1 ≤ room_1.cells ∧ cs.2 ≤ room_1.slots) {x w hi tx sh pw aw sa sg fd fa rr lo mk ea pt lb lc eb mb pb y : Nat} {q : Nat → Nat} {ra : Int → Nat} (i : Int) (hix : 0 ≤ i ∧ i + 4 < (Ln : Int) ∧ (Ln : Int) ≤ 2560) (hk : LB K cs G bS i x w hi tx sh pw aw sa sg fd fa rr lo mk ea pt lb lc eb mb pb y q ra) (wa pa aa : Nat → Nat) (N L T : Nat → Int) (F : Nat → Int → Int) (c n lo2 z ln a b o fc m nh ec es cm pc be ap fo wr sb : Int) (f ch g P S E T2 U Nn Ec A wd Cn vv pp kd nb Tm ie my su fi mo ish ends : Int → Int) (hR : REL wa pa aa N L T F c n lo2 z ln a b o fc m nh ec es cm pc be ap fo wr sb f ch g P S E T2 U Nn Ec A wd Cn vv pp kd nb Tm ie my su fi mo ish ends) : V K cs 648 [some (.ref bS), some (.ref x), some (.ref y), some (.int (iZ i)), none, none, none, none] [] (WD G x w hi tx sh pw aw sa sg fd fa rr lo mk ea pt lb lc eb mb pb y q ra wa pa aa N L T F c n lo2 z ln a b o fc m nh ec es cm pc be ap fo wr sb f ch g P S E T2 U Nn Ec A wd Cn vv pp kd nb Tm ie my su fi mo ish ends) := by
  obtain ⟨hW, hH, hC, hS⟩ := hR
  obtain ⟨w0, w1, w2, w3, w4, w5⟩ := WR_n hW
  have hC1 := hC.1
  have hH1 := hH.1
  obtain ⟨s1, s2, s3, s4, s5, s6, s7, s8, s9, s10, s11, s12, s13, s14, s15, s16, s17⟩ := hS
  have hS : SHR m nh ec es cm pc be Nn Ec wd A Cn ie my su fi mo := ⟨s1, s2, s3, s4, s5, s6, s7, s8, s9, s10, s11, s12, s13, s14, s15, s16, s17⟩
  have z1 := hsc (i + 1)
  have z2 := hsc (i + 2)
  have z3 := hsc (i + 3)
  have z4 := hsc (i + 4)
  refine V_aload_n h (dk dd_L_law_7 30 rfl) rfl get1 ?_
  refine V_aload_n h (dk dd_L_law_7 31 rfl) rfl get0 ?_
  refine V_iload_n h (dk dd_L_law_7 32 rfl) rfl get3 ?_
  refine V_iconst h (dk dd_L_law_7 33 rfl) ?_
  refine V_iadd h (dk dd_L_law_7 34 rfl) ?_
  refine V_sld h hSc (by omega) (dk dd_L_law_7 35 rfl) ?_
  refine V_callVc h st2 ci_L_100 pk_n rfl 0 get0 (m_X11_caustic l G _ _ (by omega)) rfl rfl rfl (by decide) (Nat.le_of_ble_eq_true rfl) ⟨rfl, rfl⟩ hcs (dk dd_L_law_7 36 rfl) sk1 sm_n ?_
  refine V_aload_n h (dk dd_L_law_7 37 rfl) rfl get2 ?_
  refine V_aload_n h (dk dd_L_law_7 38 rfl) rfl get0 ?_
  refine V_iload_n h (dk dd_L_law_7 39 rfl) rfl get3 ?_
  refine V_iconst h (dk dd_L_law_7 40 rfl) ?_
  refine V_iadd h (dk dd_L_law_7 41 rfl) ?_
  refine V_sld h hSc (by omega) (dk dd_L_law_7 42 rfl) ?_
  refine V_callVc h st2 ci_L_103 pk_n rfl 36 get36 (m_X12_caustic l G _ _ (by omega)) rfl rfl rfl (by decide) (Nat.le_of_ble_eq_true rfl) ⟨rfl, rfl⟩ hcs (dk dd_L_law_7 43 rfl) sk1 sm_n ?_
  refine V_icmp_same (tgt := 810) h (dk dd_L_law_7 44 rfl) rfl ?_
  exact hk _ _ _ _ _ _ _ _ _ _ _ _ _ _ _ _ _ _ _ _ _ _ _ _ _ _ _ _ _ _ _ _ _ _ _ _ _ _ _ _ _ _ _ _ _ _ _ _ _ _ _ _ ⟨hW, hH, hC, hS⟩

set_option maxHeartbeats 8000000 in
set_option maxRecDepth 100000 in
theorem lc_21 {l : Launch} {G : GT} {ad : AdT} {nm : String} {K : KT} {cs : Nat × Nat} (h : Good l G RL nm cL_law 8 room_1 K) (hSt : StrK ad K) {bS Ln : Nat} {sc : Int → Int} (hSc : ScrK bS Ln sc K) (hsc : ∀ j, R32 (sc j)) (hcs : cs.1 ≤ room_1.cells ∧ cs.2 ≤ room_1.slots) {x w hi tx sh pw aw sa sg fd fa rr lo mk ea pt lb lc eb mb pb y : Nat} {q : Nat → Nat} {ra : Int → Nat} (i : Int) (hix : 0 ≤ i ∧ i + 4 < (Ln : Int) ∧ (Ln : Int) ≤ 2560) (hk : LB K cs G bS i x w hi tx sh pw aw sa sg fd fa rr lo mk ea pt lb lc eb mb pb y q ra) (wa pa aa : Nat → Nat) (N L T : Nat → Int) (F : Nat → Int → Int) (c n lo2 z ln a b o fc m nh ec es cm pc be ap fo wr sb : Int) (f ch g P S E T2 U Nn Ec A wd Cn vv pp kd nb Tm ie my su fi mo ish ends : Int → Int) (hR : REL wa pa aa N L T F c n lo2 z ln a b o fc m nh ec es cm pc be ap fo wr sb f ch g P S E T2 U Nn Ec A wd Cn vv pp kd nb Tm ie my su fi mo ish ends) : V K cs 671 [some (.ref bS), some (.ref x), some (.ref y), some (.int (iZ i)), none, none, none, none] [] (WD G x w hi tx sh pw aw sa sg fd fa rr lo mk ea pt lb lc eb mb pb y q ra wa pa aa N L T F c n lo2 z ln a b o fc m nh ec es cm pc be ap fo wr sb f ch g P S E T2 U Nn Ec A wd Cn vv pp kd nb Tm ie my su fi mo ish ends) := by
  obtain ⟨hW, hH, hC, hS⟩ := hR
  obtain ⟨w0, w1, w2, w3, w4, w5⟩ := WR_n hW
  have hC1 := hC.1
  have hH1 := hH.1
  obtain ⟨s1, s2, s3, s4, s5, s6, s7, s8, s9, s10, s11, s12, s13, s14, s15, s16, s17⟩ := hS
  have hS : SHR m nh ec es cm pc be Nn Ec wd A Cn ie my su fi mo := ⟨s1, s2, s3, s4, s5, s6, s7, s8, s9, s10, s11, s12, s13, s14, s15, s16, s17⟩
  have z1 := hsc (i + 1)
  have z2 := hsc (i + 2)
  have z3 := hsc (i + 3)
  have z4 := hsc (i + 4)
  refine V_aload_n h (dk dd_L_law_7 47 rfl) rfl get1 ?_
  refine V_aload_n h (dk dd_L_law_7 48 rfl) rfl get0 ?_
  refine V_iload_n h (dk dd_L_law_7 49 rfl) rfl get3 ?_
  refine V_iconst h (dk dd_L_law_8 0 rfl) ?_
  refine V_iadd h (dk dd_L_law_8 1 rfl) ?_
  refine V_sld h hSc (by omega) (dk dd_L_law_8 2 rfl) ?_
  refine V_callVc h st2 ci_L_104 pk_n rfl 0 get0 (m_X11_order l G _ _ (by omega)) rfl rfl rfl (by decide) (Nat.le_of_ble_eq_true rfl) ⟨rfl, rfl⟩ hcs (dk dd_L_law_8 3 rfl) sk1 sm_n ?_
  refine V_aload_n h (dk dd_L_law_8 4 rfl) rfl get2 ?_
  refine V_aload_n h (dk dd_L_law_8 5 rfl) rfl get0 ?_
  refine V_iload_n h (dk dd_L_law_8 6 rfl) rfl get3 ?_
  refine V_iconst h (dk dd_L_law_8 7 rfl) ?_
  refine V_iadd h (dk dd_L_law_8 8 rfl) ?_
  refine V_sld h hSc (by omega) (dk dd_L_law_8 9 rfl) ?_
  refine V_callVc h st2 ci_L_107 pk_n rfl 36 get36 (m_X12_order l G _ _ (by omega)) rfl rfl rfl (by decide) (Nat.le_of_ble_eq_true rfl) ⟨rfl, rfl⟩ hcs (dk dd_L_law_8 10 rfl) sk1 sm_n ?_
  refine V_icmp_same (tgt := 810) h (dk dd_L_law_8 11 rfl) rfl ?_
  exact hk _ _ _ _ _ _ _ _ _ _ _ _ _ _ _ _ _ _ _ _ _ _ _ _ _ _ _ _ _ _ _ _ _ _ _ _ _ _ _ _ _ _ _ _ _ _ _ _ _ _ _ _ ⟨hW, hH, hC, hS⟩

set_option maxHeartbeats 8000000 in
set_option maxRecDepth 100000 in
theorem lc_22 {l : Launch} {G : GT} {ad : AdT} {nm : String} {K : KT} {cs : Nat × Nat} (h : Good l G RL nm cL_law 8 room_1 K) (hSt : StrK ad K) {bS Ln : Nat} {sc : Int → Int} (hSc : ScrK bS Ln sc K) (hsc : ∀ j, R32 (sc j)) (hcs : cs.1 ≤ room_1.cells ∧ cs.2 ≤ room_1.slots) {x w hi tx sh pw aw sa sg fd fa rr lo mk ea pt lb lc eb mb pb y : Nat} {q : Nat → Nat} {ra : Int → Nat} (i : Int) (hix : 0 ≤ i ∧ i + 4 < (Ln : Int) ∧ (Ln : Int) ≤ 2560) (hk : LB K cs G bS i x w hi tx sh pw aw sa sg fd fa rr lo mk ea pt lb lc eb mb pb y q ra) (wa pa aa : Nat → Nat) (N L T : Nat → Int) (F : Nat → Int → Int) (c n lo2 z ln a b o fc m nh ec es cm pc be ap fo wr sb : Int) (f ch g P S E T2 U Nn Ec A wd Cn vv pp kd nb Tm ie my su fi mo ish ends : Int → Int) (hR : REL wa pa aa N L T F c n lo2 z ln a b o fc m nh ec es cm pc be ap fo wr sb f ch g P S E T2 U Nn Ec A wd Cn vv pp kd nb Tm ie my su fi mo ish ends) : V K cs 694 [some (.ref bS), some (.ref x), some (.ref y), some (.int (iZ i)), none, none, none, none] [] (WD G x w hi tx sh pw aw sa sg fd fa rr lo mk ea pt lb lc eb mb pb y q ra wa pa aa N L T F c n lo2 z ln a b o fc m nh ec es cm pc be ap fo wr sb f ch g P S E T2 U Nn Ec A wd Cn vv pp kd nb Tm ie my su fi mo ish ends) := by
  obtain ⟨hW, hH, hC, hS⟩ := hR
  obtain ⟨w0, w1, w2, w3, w4, w5⟩ := WR_n hW
  have hC1 := hC.1
  have hH1 := hH.1
  obtain ⟨s1, s2, s3, s4, s5, s6, s7, s8, s9, s10, s11, s12, s13, s14, s15, s16, s17⟩ := hS
  have hS : SHR m nh ec es cm pc be Nn Ec wd A Cn ie my su fi mo := ⟨s1, s2, s3, s4, s5, s6, s7, s8, s9, s10, s11, s12, s13, s14, s15, s16, s17⟩
  have z1 := hsc (i + 1)
  have z2 := hsc (i + 2)
  have z3 := hsc (i + 3)
  have z4 := hsc (i + 4)
  refine V_aload_n h (dk dd_L_law_8 14 rfl) rfl get1 ?_
  refine V_aload_n h (dk dd_L_law_8 15 rfl) rfl get0 ?_
  refine V_iload_n h (dk dd_L_law_8 16 rfl) rfl get3 ?_
  refine V_iconst h (dk dd_L_law_8 17 rfl) ?_
  refine V_iadd h (dk dd_L_law_8 18 rfl) ?_
  refine V_sld h hSc (by omega) (dk dd_L_law_8 19 rfl) ?_
  refine V_callVc h st2 ci_L_108 pk_n rfl 0 get0 (m_X11_turns l G _ _ (by omega)) rfl rfl rfl (by decide) (Nat.le_of_ble_eq_true rfl) ⟨rfl, rfl⟩ hcs (dk dd_L_law_8 20 rfl) sk1 sm_n ?_
  refine V_aload_n h (dk dd_L_law_8 21 rfl) rfl get2 ?_
  refine V_aload_n h (dk dd_L_law_8 22 rfl) rfl get0 ?_
  refine V_iload_n h (dk dd_L_law_8 23 rfl) rfl get3 ?_
  refine V_iconst h (dk dd_L_law_8 24 rfl) ?_
  refine V_iadd h (dk dd_L_law_8 25 rfl) ?_
  refine V_sld h hSc (by omega) (dk dd_L_law_8 26 rfl) ?_
  refine V_callVc h st2 ci_L_111 pk_n rfl 36 get36 (m_X12_turns l G _ _ (by omega)) rfl rfl rfl (by decide) (Nat.le_of_ble_eq_true rfl) ⟨rfl, rfl⟩ hcs (dk dd_L_law_8 27 rfl) sk1 sm_n ?_
  refine V_icmp_same (tgt := 810) h (dk dd_L_law_8 28 rfl) rfl ?_
  exact hk _ _ _ _ _ _ _ _ _ _ _ _ _ _ _ _ _ _ _ _ _ _ _ _ _ _ _ _ _ _ _ _ _ _ _ _ _ _ _ _ _ _ _ _ _ _ _ _ _ _ _ _ ⟨hW, hH, hC, hS⟩

set_option maxHeartbeats 8000000 in
set_option maxRecDepth 100000 in
theorem lc_23 {l : Launch} {G : GT} {ad : AdT} {nm : String} {K : KT} {cs : Nat × Nat} (h : Good l G RL nm cL_law 8 room_1 K) (hSt : StrK ad K) {bS Ln : Nat} {sc : Int → Int} (hSc : ScrK bS Ln sc K) (hsc : ∀ j, R32 (sc j)) (hcs : cs.1 ≤ room_1.cells ∧ cs.2 ≤ room_1.slots) {x w hi tx sh pw aw sa sg fd fa rr lo mk ea pt lb lc eb mb pb y : Nat} {q : Nat → Nat} {ra : Int → Nat} (i : Int) (hix : 0 ≤ i ∧ i + 4 < (Ln : Int) ∧ (Ln : Int) ≤ 2560) (hk : LB K cs G bS i x w hi tx sh pw aw sa sg fd fa rr lo mk ea pt lb lc eb mb pb y q ra) (wa pa aa : Nat → Nat) (N L T : Nat → Int) (F : Nat → Int → Int) (c n lo2 z ln a b o fc m nh ec es cm pc be ap fo wr sb : Int) (f ch g P S E T2 U Nn Ec A wd Cn vv pp kd nb Tm ie my su fi mo ish ends : Int → Int) (hR : REL wa pa aa N L T F c n lo2 z ln a b o fc m nh ec es cm pc be ap fo wr sb f ch g P S E T2 U Nn Ec A wd Cn vv pp kd nb Tm ie my su fi mo ish ends) : V K cs 717 [some (.ref bS), some (.ref x), some (.ref y), some (.int (iZ i)), none, none, none, none] [] (WD G x w hi tx sh pw aw sa sg fd fa rr lo mk ea pt lb lc eb mb pb y q ra wa pa aa N L T F c n lo2 z ln a b o fc m nh ec es cm pc be ap fo wr sb f ch g P S E T2 U Nn Ec A wd Cn vv pp kd nb Tm ie my su fi mo ish ends) := by
  obtain ⟨hW, hH, hC, hS⟩ := hR
  obtain ⟨w0, w1, w2, w3, w4, w5⟩ := WR_n hW
  have hC1 := hC.1
  have hH1 := hH.1
  obtain ⟨s1, s2, s3, s4, s5, s6, s7, s8, s9, s10, s11, s12, s13, s14, s15, s16, s17⟩ := hS
  have hS : SHR m nh ec es cm pc be Nn Ec wd A Cn ie my su fi mo := ⟨s1, s2, s3, s4, s5, s6, s7, s8, s9, s10, s11, s12, s13, s14, s15, s16, s17⟩
  have z1 := hsc (i + 1)
  have z2 := hsc (i + 2)
  have z3 := hsc (i + 3)
  have z4 := hsc (i + 4)
  refine V_aload_n h (dk dd_L_law_8 31 rfl) rfl get1 ?_
  refine V_aload_n h (dk dd_L_law_8 32 rfl) rfl get0 ?_
  refine V_iload_n h (dk dd_L_law_8 33 rfl) rfl get3 ?_
  refine V_iconst h (dk dd_L_law_8 34 rfl) ?_
  refine V_iadd h (dk dd_L_law_8 35 rfl) ?_
  refine V_sld h hSc (by omega) (dk dd_L_law_8 36 rfl) ?_
  refine V_aload_n h (dk dd_L_law_8 37 rfl) rfl get0 ?_
  refine V_iload_n h (dk dd_L_law_8 38 rfl) rfl get3 ?_
  refine V_iconst h (dk dd_L_law_8 39 rfl) ?_
  refine V_iadd h (dk dd_L_law_8 40 rfl) ?_
  refine V_sld h hSc (by omega) (dk dd_L_law_8 41 rfl) ?_
  refine V_aload_n h (dk dd_L_law_8 42 rfl) rfl get0 ?_
  refine V_iload_n h (dk dd_L_law_8 43 rfl) rfl get3 ?_
  refine V_iconst h (dk dd_L_law_8 44 rfl) ?_
  refine V_iadd h (dk dd_L_law_8 45 rfl) ?_
  refine V_sld h hSc (by omega) (dk dd_L_law_8 46 rfl) ?_
  refine V_callVc h st4 ci_L_112 pk_n rfl 0 get0 (m_X11_aim l G _ _ _ _ (by omega) (by omega) (by omega)) rfl rfl rfl (by decide) (Nat.le_of_ble_eq_true rfl) ⟨rfl, rfl⟩ hcs (dk dd_L_law_8 47 rfl) sk1 sm_n ?_
  refine V_aload_n h (dk dd_L_law_8 48 rfl) rfl get2 ?_
  refine V_aload_n h (dk dd_L_law_8 49 rfl) rfl get0 ?_
  refine V_iload_n h (dk dd_L_law_9 0 rfl) rfl get3 ?_
  refine V_iconst h (dk dd_L_law_9 1 rfl) ?_
  refine V_iadd h (dk dd_L_law_9 2 rfl) ?_
  refine V_sld h hSc (by omega) (dk dd_L_law_9 3 rfl) ?_
  refine V_aload_n h (dk dd_L_law_9 4 rfl) rfl get0 ?_
  refine V_iload_n h (dk dd_L_law_9 5 rfl) rfl get3 ?_
  refine V_iconst h (dk dd_L_law_9 6 rfl) ?_
  refine V_iadd h (dk dd_L_law_9 7 rfl) ?_
  refine V_sld h hSc (by omega) (dk dd_L_law_9 8 rfl) ?_
  refine V_aload_n h (dk dd_L_law_9 9 rfl) rfl get0 ?_
  refine V_iload_n h (dk dd_L_law_9 10 rfl) rfl get3 ?_
  refine V_iconst h (dk dd_L_law_9 11 rfl) ?_
  refine V_iadd h (dk dd_L_law_9 12 rfl) ?_
  refine V_sld h hSc (by omega) (dk dd_L_law_9 13 rfl) ?_
  refine V_callVc h st4 ci_L_115 pk_n rfl 36 get36 (m_X12_aim l G _ _ _ _ (by omega) (by omega) (by omega)) rfl rfl rfl (by decide) (Nat.le_of_ble_eq_true rfl) ⟨rfl, rfl⟩ hcs (dk dd_L_law_9 14 rfl) sk1 sm_n ?_
  refine V_icmp_same (tgt := 810) h (dk dd_L_law_9 15 rfl) rfl ?_
  exact hk _ _ _ _ _ _ _ _ _ _ _ _ _ _ _ _ _ _ _ _ _ _ _ _ _ _ _ _ _ _ _ _ _ _ _ _ _ _ _ _ _ _ _ _ _ _ _ _ _ _ _ _ ⟨hW, hH, hC, hS⟩

set_option maxHeartbeats 8000000 in
set_option maxRecDepth 100000 in
theorem lc_24 {l : Launch} {G : GT} {ad : AdT} {nm : String} {K : KT} {cs : Nat × Nat} (h : Good l G RL nm cL_law 8 room_1 K) (hSt : StrK ad K) {bS Ln : Nat} {sc : Int → Int} (hSc : ScrK bS Ln sc K) (hsc : ∀ j, R32 (sc j)) (hcs : cs.1 ≤ room_1.cells ∧ cs.2 ≤ room_1.slots) {x w hi tx sh pw aw sa sg fd fa rr lo mk ea pt lb lc eb mb pb y : Nat} {q : Nat → Nat} {ra : Int → Nat} (i : Int) (hix : 0 ≤ i ∧ i + 4 < (Ln : Int) ∧ (Ln : Int) ≤ 2560) (hk : LB K cs G bS i x w hi tx sh pw aw sa sg fd fa rr lo mk ea pt lb lc eb mb pb y q ra) (wa pa aa : Nat → Nat) (N L T : Nat → Int) (F : Nat → Int → Int) (c n lo2 z ln a b o fc m nh ec es cm pc be ap fo wr sb : Int) (f ch g P S E T2 U Nn Ec A wd Cn vv pp kd nb Tm ie my su fi mo ish ends : Int → Int) (hR : REL wa pa aa N L T F c n lo2 z ln a b o fc m nh ec es cm pc be ap fo wr sb f ch g P S E T2 U Nn Ec A wd Cn vv pp kd nb Tm ie my su fi mo ish ends) : V K cs 760 [some (.ref bS), some (.ref x), some (.ref y), some (.int (iZ i)), none, none, none, none] [] (WD G x w hi tx sh pw aw sa sg fd fa rr lo mk ea pt lb lc eb mb pb y q ra wa pa aa N L T F c n lo2 z ln a b o fc m nh ec es cm pc be ap fo wr sb f ch g P S E T2 U Nn Ec A wd Cn vv pp kd nb Tm ie my su fi mo ish ends) := by
  obtain ⟨hW, hH, hC, hS⟩ := hR
  obtain ⟨w0, w1, w2, w3, w4, w5⟩ := WR_n hW
  have hC1 := hC.1
  have hH1 := hH.1
  obtain ⟨s1, s2, s3, s4, s5, s6, s7, s8, s9, s10, s11, s12, s13, s14, s15, s16, s17⟩ := hS
  have hS : SHR m nh ec es cm pc be Nn Ec wd A Cn ie my su fi mo := ⟨s1, s2, s3, s4, s5, s6, s7, s8, s9, s10, s11, s12, s13, s14, s15, s16, s17⟩
  have z1 := hsc (i + 1)
  have z2 := hsc (i + 2)
  have z3 := hsc (i + 3)
  have z4 := hsc (i + 4)
  refine V_aload_n h (dk dd_L_law_9 18 rfl) rfl get1 ?_
  refine V_aload_n h (dk dd_L_law_9 19 rfl) rfl get0 ?_
  refine V_iload_n h (dk dd_L_law_9 20 rfl) rfl get3 ?_
  refine V_iconst h (dk dd_L_law_9 21 rfl) ?_
  refine V_iadd h (dk dd_L_law_9 22 rfl) ?_
  refine V_sld h hSc (by omega) (dk dd_L_law_9 23 rfl) ?_
  refine V_callVc h st2 ci_L_116 pk_n rfl 0 get0 (m_X11_widest l G _ _ (by omega)) rfl rfl rfl (by decide) (Nat.le_of_ble_eq_true rfl) ⟨rfl, rfl⟩ hcs (dk dd_L_law_9 24 rfl) sk1 sm_n ?_
  refine V_aload_n h (dk dd_L_law_9 25 rfl) rfl get2 ?_
  refine V_aload_n h (dk dd_L_law_9 26 rfl) rfl get0 ?_
  refine V_iload_n h (dk dd_L_law_9 27 rfl) rfl get3 ?_
  refine V_iconst h (dk dd_L_law_9 28 rfl) ?_
  refine V_iadd h (dk dd_L_law_9 29 rfl) ?_
  refine V_sld h hSc (by omega) (dk dd_L_law_9 30 rfl) ?_
  refine V_callVc h st2 ci_L_119 pk_n rfl 36 get36 (m_X12_widest l G _ _ (by omega)) rfl rfl rfl (by decide) (Nat.le_of_ble_eq_true rfl) ⟨rfl, rfl⟩ hcs (dk dd_L_law_9 31 rfl) sk1 sm_n ?_
  refine V_icmp_same (tgt := 810) h (dk dd_L_law_9 32 rfl) rfl ?_
  exact hk _ _ _ _ _ _ _ _ _ _ _ _ _ _ _ _ _ _ _ _ _ _ _ _ _ _ _ _ _ _ _ _ _ _ _ _ _ _ _ _ _ _ _ _ _ _ _ _ _ _ _ _ ⟨hW, hH, hC, hS⟩

set_option maxHeartbeats 8000000 in
set_option maxRecDepth 100000 in
theorem lc_25 {l : Launch} {G : GT} {ad : AdT} {nm : String} {K : KT} {cs : Nat × Nat} (h : Good l G RL nm cL_law 8 room_1 K) (hSt : StrK ad K) {bS Ln : Nat} {sc : Int → Int} (hSc : ScrK bS Ln sc K) (hsc : ∀ j, R32 (sc j)) (hcs : cs.1 ≤ room_1.cells ∧ cs.2 ≤ room_1.slots) {x w hi tx sh pw aw sa sg fd fa rr lo mk ea pt lb lc eb mb pb y : Nat} {q : Nat → Nat} {ra : Int → Nat} (i : Int) (hix : 0 ≤ i ∧ i + 4 < (Ln : Int) ∧ (Ln : Int) ≤ 2560) (hk : LB K cs G bS i x w hi tx sh pw aw sa sg fd fa rr lo mk ea pt lb lc eb mb pb y q ra) (wa pa aa : Nat → Nat) (N L T : Nat → Int) (F : Nat → Int → Int) (c n lo2 z ln a b o fc m nh ec es cm pc be ap fo wr sb : Int) (f ch g P S E T2 U Nn Ec A wd Cn vv pp kd nb Tm ie my su fi mo ish ends : Int → Int) (hR : REL wa pa aa N L T F c n lo2 z ln a b o fc m nh ec es cm pc be ap fo wr sb f ch g P S E T2 U Nn Ec A wd Cn vv pp kd nb Tm ie my su fi mo ish ends) : V K cs 783 [some (.ref bS), some (.ref x), some (.ref y), some (.int (iZ i)), none, none, none, none] [] (WD G x w hi tx sh pw aw sa sg fd fa rr lo mk ea pt lb lc eb mb pb y q ra wa pa aa N L T F c n lo2 z ln a b o fc m nh ec es cm pc be ap fo wr sb f ch g P S E T2 U Nn Ec A wd Cn vv pp kd nb Tm ie my su fi mo ish ends) := by
  obtain ⟨hW, hH, hC, hS⟩ := hR
  obtain ⟨w0, w1, w2, w3, w4, w5⟩ := WR_n hW
  have hC1 := hC.1
  have hH1 := hH.1
  obtain ⟨s1, s2, s3, s4, s5, s6, s7, s8, s9, s10, s11, s12, s13, s14, s15, s16, s17⟩ := hS
  have hS : SHR m nh ec es cm pc be Nn Ec wd A Cn ie my su fi mo := ⟨s1, s2, s3, s4, s5, s6, s7, s8, s9, s10, s11, s12, s13, s14, s15, s16, s17⟩
  have z1 := hsc (i + 1)
  have z2 := hsc (i + 2)
  have z3 := hsc (i + 3)
  have z4 := hsc (i + 4)
  rcases (show c = 0 ∨ 1 ≤ c by omega) with hA | hA
  · refine V_aload_n h (dk dd_L_law_9 35 rfl) rfl get1 ?_
    refine V_callVc h st1 ci_L_120 (pk_c get0 (pk_c get1 (pk_c get2 (pk_c get3 (pk_c get4 (pk_c get5 (pk_c get6 (pk_c get7 (pk_c get8 (pk_c get9 (pk_c get10 (pk_c get11 (pk_c get12 (pk_c get13 (pk_c get14 (pk_c get15 (pk_c get16 (pk_c get17 (pk_c get18 (pk_c get19 (pk_c get20 pk_n))))))))))))))))))))) rfl 0 get0 (m_undo_none l G _ _ _ _ _ _ _ _ _ _ _ _ _ _ _ _ _ _ _ _ (by omega)) rfl rfl rfl (by decide) (Nat.le_of_ble_eq_true rfl) ⟨rfl, rfl⟩ hcs (dk dd_L_law_9 36 rfl) sk1 (sm_c set0 (sm_c set1 (sm_c set2 (sm_c set3 (sm_c set4 (sm_c set5 (sm_c set6 (sm_c set7 (sm_c set8 (sm_c set9 (sm_c set10 (sm_c set11 (sm_c set12 (sm_c set13 (sm_c set14 (sm_c set15 (sm_c set16 (sm_c set17 (sm_c set18 (sm_c set19 (sm_c set20 sm_n))))))))))))))))))))) ?_
    refine V_aload_n h (dk dd_L_law_9 37 rfl) rfl get2 ?_
    refine V_callVc h st1 ci_L_123 (pk_c get36 (pk_c get38 (pk_c get37 pk_n))) rfl 36 get36 (m_mundo_none l G _ _ _ _ _ _ _ _ _ _ _ _ _ (by omega)) rfl rfl rfl (by decide) (Nat.le_of_ble_eq_true rfl) ⟨rfl, rfl⟩ hcs (dk dd_L_law_9 38 rfl) sk1 (sm_c set36 (sm_c set38 (sm_c set37 sm_n))) ?_
    refine V_icmp_same (tgt := 810) h (dk dd_L_law_9 39 rfl) rfl ?_
    exact hk _ _ _ _ _ _ _ _ _ _ _ _ _ _ _ _ _ _ _ _ _ _ _ _ _ _ _ _ _ _ _ _ _ _ _ _ _ _ _ _ _ _ _ _ _ _ _ _ _ _ _ _ ⟨hW, hH, hC, hS⟩
  · have hWt := HR_top (f := f) (vv := vv) hH hA
    have hnt := hWt.2.2.2.2.1
    refine V_aload_n h (dk dd_L_law_9 35 rfl) rfl get1 ?_
    refine V_callVc h st1 ci_L_120 (pk_c get0 (pk_c get1 (pk_c get2 (pk_c get3 (pk_c get4 (pk_c get5 (pk_c get6 (pk_c get7 (pk_c get8 (pk_c get9 (pk_c get10 (pk_c get11 (pk_c get12 (pk_c get13 (pk_c get14 (pk_c get15 (pk_c get16 (pk_c get17 (pk_c get18 (pk_c get19 (pk_c get20 pk_n))))))))))))))))))))) rfl 0 get0 (m_undo_ok l G _ _ _ _ _ _ _ _ _ _ _ _ _ _ _ _ _ _ _ _ (by omega) (hnt)) rfl rfl rfl (by decide) (Nat.le_of_ble_eq_true rfl) ⟨rfl, rfl⟩ hcs (dk dd_L_law_9 36 rfl) sk1 (sm_c set0 (sm_c set1 (sm_c set2 (sm_c set3 (sm_c set4 (sm_c set5 (sm_c set6 (sm_c set7 (sm_c set8 (sm_c set9 (sm_c set10 (sm_c set11 (sm_c set12 (sm_c set13 (sm_c set14 (sm_c set15 (sm_c set16 (sm_c set17 (sm_c set18 (sm_c set19 (sm_c set20 sm_n))))))))))))))))))))) ?_
    refine V_aload_n h (dk dd_L_law_9 37 rfl) rfl get2 ?_
    refine V_callVc h st1 ci_L_123 (pk_c get36 (pk_c get38 (pk_c get37 pk_n))) rfl 36 get36 (m_mundo_ok l G _ _ _ _ _ _ _ _ _ _ _ _ _ (by omega)) rfl rfl rfl (by decide) (Nat.le_of_ble_eq_true rfl) ⟨rfl, rfl⟩ hcs (dk dd_L_law_9 38 rfl) sk1 (sm_c set36 (sm_c set38 (sm_c set37 sm_n))) ?_
    refine V_icmp_same (tgt := 810) h (dk dd_L_law_9 39 rfl) rfl ?_
    exact hk _ _ _ _ _ _ _ _ _ _ _ _ _ _ _ _ _ _ _ _ _ _ _ _ _ _ _ _ _ _ _ _ _ _ _ _ _ _ _ _ _ _ _ _ _ _ _ _ _ _ _ _ ⟨hWt, HR_pop hH hA, hC, hS⟩

set_option maxHeartbeats 8000000 in
set_option maxRecDepth 100000 in
theorem lc_26 {l : Launch} {G : GT} {ad : AdT} {nm : String} {K : KT} {cs : Nat × Nat} (h : Good l G RL nm cL_law 8 room_1 K) (hSt : StrK ad K) {bS Ln : Nat} {sc : Int → Int} (hSc : ScrK bS Ln sc K) (hsc : ∀ j, R32 (sc j)) (hcs : cs.1 ≤ room_1.cells ∧ cs.2 ≤ room_1.slots) {x w hi tx sh pw aw sa sg fd fa rr lo mk ea pt lb lc eb mb pb y : Nat} {q : Nat → Nat} {ra : Int → Nat} (i : Int) (hix : 0 ≤ i ∧ i + 4 < (Ln : Int) ∧ (Ln : Int) ≤ 2560) (hk : LB K cs G bS i x w hi tx sh pw aw sa sg fd fa rr lo mk ea pt lb lc eb mb pb y q ra) (wa pa aa : Nat → Nat) (N L T : Nat → Int) (F : Nat → Int → Int) (c n lo2 z ln a b o fc m nh ec es cm pc be ap fo wr sb : Int) (f ch g P S E T2 U Nn Ec A wd Cn vv pp kd nb Tm ie my su fi mo ish ends : Int → Int) (hR : REL wa pa aa N L T F c n lo2 z ln a b o fc m nh ec es cm pc be ap fo wr sb f ch g P S E T2 U Nn Ec A wd Cn vv pp kd nb Tm ie my su fi mo ish ends) : V K cs 796 [some (.ref bS), some (.ref x), some (.ref y), some (.int (iZ i)), none, none, none, none] [] (WD G x w hi tx sh pw aw sa sg fd fa rr lo mk ea pt lb lc eb mb pb y q ra wa pa aa N L T F c n lo2 z ln a b o fc m nh ec es cm pc be ap fo wr sb f ch g P S E T2 U Nn Ec A wd Cn vv pp kd nb Tm ie my su fi mo ish ends) := by
  obtain ⟨hW, hH, hC, hS⟩ := hR
  obtain ⟨w0, w1, w2, w3, w4, w5⟩ := WR_n hW
  have hC1 := hC.1
  have hH1 := hH.1
  obtain ⟨s1, s2, s3, s4, s5, s6, s7, s8, s9, s10, s11, s12, s13, s14, s15, s16, s17⟩ := hS
  have hS : SHR m nh ec es cm pc be Nn Ec wd A Cn ie my su fi mo := ⟨s1, s2, s3, s4, s5, s6, s7, s8, s9, s10, s11, s12, s13, s14, s15, s16, s17⟩
  have z1 := hsc (i + 1)
  have z2 := hsc (i + 2)
  have z3 := hsc (i + 3)
  have z4 := hsc (i + 4)
  have hfR := WR_R hW
  refine V_aload_n h (dk dd_L_law_9 42 rfl) rfl get1 ?_
  refine V_callVc h st1 ci_L_124 (pk_c get0 (pk_c get1 (pk_c get2 (pk_c get3 (pk_c get25 (pk_c get27 (pk_c get28 (pk_c get29 (pk_c get30 (pk_c get31 (pk_c get32 (pk_c get33 pk_n)))))))))))) rfl 0 get0 (m_X11_fingerprint l G _ _ _ _ _ _ _ _ _ _ _ _ _ _ _ _ _ _ _ _ _ _ _ _ _ _ _ _ _ (by omega) (hfR) (by omega) (by omega) (by omega) (by omega) (by omega)) rfl rfl rfl (by decide) (Nat.le_of_ble_eq_true rfl) ⟨rfl, rfl⟩ hcs (dk dd_L_law_9 43 rfl) sk1 (sm_c set0 (sm_c set1 (sm_c set2 (sm_c set3 (sm_c set25 (sm_c set27 (sm_c set28 (sm_c set29 (sm_c set30 (sm_c set31 (sm_c set32 (sm_c set33 sm_n)))))))))))) ?_
  refine V_aload_n h (dk dd_L_law_9 44 rfl) rfl get2 ?_
  refine V_callVc h st1 ci_L_128 (pk_c get36 (pk_c get37 (pk_c get47 (pk_c get53 (pk_c get49 (pk_c get50 (pk_c get51 (pk_c get52 pk_n)))))))) rfl 36 get36 (m_X12_fingerprint l G _ _ _ _ _ _ _ _ _ _ _ _ _ _ _ _ _ _ (by omega) (fun j a b => (s9 j a b).1) (s11) (by omega) (fun j a b d => by
    rcases (show j = 0 ∨ j = 1 ∨ j = 2 ∨ j = 3 ∨ 4 ≤ j by omega) with e | e | e | e | e
    · rw [e]; omega
    · rw [e]; omega
    · rw [e]; omega
    · exact absurd e d
    · have q := hfR (j - 4) (by omega) (by omega)
      rw [hW.2.2.2.1 (j - 4) (by omega) (by omega)] at q
      unfold vF at q
      rwa [show 4 + (j - 4) = j by omega] at q) (by omega)) rfl rfl rfl (by decide) (Nat.le_of_ble_eq_true rfl) ⟨rfl, rfl⟩ hcs (dk dd_L_law_9 45 rfl) sk1 (sm_c set36 (sm_c set37 (sm_c set47 (sm_c set53 (sm_c set49 (sm_c set50 (sm_c set51 (sm_c set52 sm_n)))))))) ?_
  rw [← fp_eq (g := ish) hW hS]
  refine V_lcmp_same h (dk dd_L_law_9 46 rfl) ?_
  refine V_if_eq (tgt := 810) h (dk dd_L_law_9 47 rfl) rfl (by decide) (fun _ => ?_) (fun c => absurd rfl c)
  exact hk _ _ _ _ _ _ _ _ _ _ _ _ _ _ _ _ _ _ _ _ _ _ _ _ _ _ _ _ _ _ _ _ _ _ _ _ _ _ _ _ _ _ _ _ _ _ _ _ _ _ _ _ ⟨hW, hH, hC, hS⟩

