/-! the law: its loop -/
set_option maxHeartbeats 8000000 in
set_option maxRecDepth 100000 in
theorem law_loop {l : Launch} {G : GT} {ad : AdT} {nm : String} {K : KT} {cs : Nat × Nat} (h : Good l G RL nm cL_law 8 room_1 K) (hSt : StrK ad K) {bS Ln : Nat} {sc : Int → Int} (hSc : ScrK bS Ln sc K) (hsc : ∀ j, R32 (sc j)) (hcs : cs.1 ≤ room_1.cells ∧ cs.2 ≤ room_1.slots) (hLn : (Ln : Int) ≤ 2560) {x w hi tx sh pw aw sa sg fd fa rr lo mk ea pt lb lc eb mb pb y : Nat} {q : Nat → Nat} {ra : Int → Nat} (hEnd : ∀ (lv : List (Option Value)) (ws : va_W), V K cs 816 lv [] ws) : ∀ (fu : Nat) (i : Int) (wa pa aa : Nat → Nat) (N L T : Nat → Int) (F : Nat → Int → Int) (c n lo2 z ln a b o fc m nh ec es cm pc be ap fo wr sb : Int) (f ch g P S E T2 U Nn Ec A wd Cn vv pp kd nb Tm ie my su fi mo ish ends : Int → Int), (0 ≤ i ∧ i ≤ (Ln : Int)) → ((Ln : Int) - i).toNat < fu → REL wa pa aa N L T F c n lo2 z ln a b o fc m nh ec es cm pc be ap fo wr sb f ch g P S E T2 U Nn Ec A wd Cn vv pp kd nb Tm ie my su fi mo ish ends → V K cs 18 [some (.ref bS), some (.ref x), some (.ref y), some (.int (iZ i)), none, none, none, none] [] (WD G x w hi tx sh pw aw sa sg fd fa rr lo mk ea pt lb lc eb mb pb y q ra wa pa aa N L T F c n lo2 z ln a b o fc m nh ec es cm pc be ap fo wr sb f ch g P S E T2 U Nn Ec A wd Cn vv pp kd nb Tm ie my su fi mo ish ends) := by
  intro fu
  induction fu with
  | zero => intro i wa pa aa N L T F c n lo2 z ln a b o fc m9 nh ec es cm pc be ap fo wr sb f ch g P S E T2 U Nn Ec A wd Cn vv pp kd nb Tm ie my su fi mo ish ends _ hm _; exact absurd hm (Nat.not_lt_zero _)
  | succ fu ih =>
    intro i wa pa aa N L T F c n lo2 z ln a b o fc m nh ec es cm pc be ap fo wr sb f ch g P S E T2 U Nn Ec A wd Cn vv pp kd nb Tm ie my su fi mo ish ends hi0 hm hR
    refine V_iload_n h (dk dd_L_law_0 10 rfl) rfl get3 ?_
    refine V_aload_n h (dk dd_L_law_0 11 rfl) rfl get0 ?_
    refine V_slenS h hSc (dk dd_L_law_0 12 rfl) ?_
    refine V_iconst h (dk dd_L_law_0 13 rfl) ?_
    refine V_isub h (dk dd_L_law_0 14 rfl) ?_
    refine V_icmp_gt (tgt := 816) h (dk dd_L_law_0 15 rfl) rfl (by omega) (fun c23 => ?_) (fun c23 => ?_)
    · exact hEnd _ _
    · refine V_aload_n h (dk dd_L_law_0 16 rfl) rfl get0 ?_
      refine V_iload_n h (dk dd_L_law_0 17 rfl) rfl get3 ?_
      refine V_sld h hSc (by omega) (dk dd_L_law_0 18 rfl) ?_
      refine V_bipush h (dk dd_L_law_0 19 rfl) (by decide) ?_
      refine V_iand h (dk dd_L_law_0 20 rfl) ?_
      have hiR : R32 (iandZ (sc i) 31) := iZ_R _
      have hk : LB K cs G bS i x w hi tx sh pw aw sa sg fd fa rr lo mk ea pt lb lc eb mb pb y q ra := by
        intro wa pa aa N L T F c n lo2 z ln a b o fc m nh ec es cm pc be ap fo wr sb f ch g P S E T2 U Nn Ec A wd Cn vv pp kd nb Tm ie my su fi mo ish ends hR
        refine V_iinc h (dk dd_L_law_10 0 rfl) get3 (Nat.le_of_ble_eq_true rfl) rfl set3 ?_
        refine V_goto (tgt := 18) h (dk dd_L_law_10 1 rfl) rfl ?_
        exact ih (i + 5) _ _ _ _ _ _ _ _ _ _ _ _ _ _ _ _ _ _ _ _ _ _ _ _ _ _ _ _ _ _ _ _ _ _ _ _ _ _ _ _ _ _ _ _ _ _ _ _ _ _ _ _ (by omega) (by omega) hR
      rcases (show iandZ (sc i) 31 = 0 ∨ iandZ (sc i) 31 = 1 ∨ iandZ (sc i) 31 = 2 ∨ iandZ (sc i) 31 = 3 ∨ iandZ (sc i) 31 = 4 ∨ iandZ (sc i) 31 = 5 ∨ iandZ (sc i) 31 = 6 ∨ iandZ (sc i) 31 = 7 ∨ iandZ (sc i) 31 = 8 ∨ iandZ (sc i) 31 = 9 ∨ iandZ (sc i) 31 = 10 ∨ iandZ (sc i) 31 = 11 ∨ iandZ (sc i) 31 = 12 ∨ iandZ (sc i) 31 = 13 ∨ iandZ (sc i) 31 = 14 ∨ iandZ (sc i) 31 = 15 ∨ iandZ (sc i) 31 = 16 ∨ iandZ (sc i) 31 = 17 ∨ iandZ (sc i) 31 = 18 ∨ iandZ (sc i) 31 = 19 ∨ iandZ (sc i) 31 = 20 ∨ iandZ (sc i) 31 = 21 ∨ iandZ (sc i) 31 = 22 ∨ iandZ (sc i) 31 = 23 ∨ iandZ (sc i) 31 = 24 ∨ iandZ (sc i) 31 = 25 ∨ iandZ (sc i) 31 = 26 ∨ (iandZ (sc i) 31 < 0 ∨ 26 < iandZ (sc i) 31) by omega) with e | e | e | e | e | e | e | e | e | e | e | e | e | e | e | e | e | e | e | e | e | e | e | e | e | e | e | e
      · refine V_tsI (tgt := 156) (v := 0) h (dk dd_L_law_0 21 rfl) ⟨e, by decide, by decide, by decide⟩ rfl rfl ?_
        exact lc_0 h hSt hSc hsc hcs i ⟨hi0.1, by omega, hLn⟩ hk _ _ _ _ _ _ _ _ _ _ _ _ _ _ _ _ _ _ _ _ _ _ _ _ _ _ _ _ _ _ _ _ _ _ _ _ _ _ _ _ _ _ _ _ _ _ _ _ _ _ _ _ hR
      · refine V_tsI (tgt := 209) (v := 1) h (dk dd_L_law_0 21 rfl) ⟨e, by decide, by decide, by decide⟩ rfl rfl ?_
        exact lc_1 h hSt hSc hsc hcs i ⟨hi0.1, by omega, hLn⟩ hk _ _ _ _ _ _ _ _ _ _ _ _ _ _ _ _ _ _ _ _ _ _ _ _ _ _ _ _ _ _ _ _ _ _ _ _ _ _ _ _ _ _ _ _ _ _ _ _ _ _ _ _ hR
      · refine V_tsI (tgt := 232) (v := 2) h (dk dd_L_law_0 21 rfl) ⟨e, by decide, by decide, by decide⟩ rfl rfl ?_
        exact lc_2 h hSt hSc hsc hcs i ⟨hi0.1, by omega, hLn⟩ hk _ _ _ _ _ _ _ _ _ _ _ _ _ _ _ _ _ _ _ _ _ _ _ _ _ _ _ _ _ _ _ _ _ _ _ _ _ _ _ _ _ _ _ _ _ _ _ _ _ _ _ _ hR
      · refine V_tsI (tgt := 265) (v := 3) h (dk dd_L_law_0 21 rfl) ⟨e, by decide, by decide, by decide⟩ rfl rfl ?_
        exact lc_3 h hSt hSc hsc hcs i ⟨hi0.1, by omega, hLn⟩ hk _ _ _ _ _ _ _ _ _ _ _ _ _ _ _ _ _ _ _ _ _ _ _ _ _ _ _ _ _ _ _ _ _ _ _ _ _ _ _ _ _ _ _ _ _ _ _ _ _ _ _ _ hR
      · refine V_tsI (tgt := 278) (v := 4) h (dk dd_L_law_0 21 rfl) ⟨e, by decide, by decide, by decide⟩ rfl rfl ?_
        exact lc_4 h hSt hSc hsc hcs i ⟨hi0.1, by omega, hLn⟩ hk _ _ _ _ _ _ _ _ _ _ _ _ _ _ _ _ _ _ _ _ _ _ _ _ _ _ _ _ _ _ _ _ _ _ _ _ _ _ _ _ _ _ _ _ _ _ _ _ _ _ _ _ hR
      · refine V_tsI (tgt := 301) (v := 5) h (dk dd_L_law_0 21 rfl) ⟨e, by decide, by decide, by decide⟩ rfl rfl ?_
        exact lc_5 h hSt hSc hsc hcs i ⟨hi0.1, by omega, hLn⟩ hk _ _ _ _ _ _ _ _ _ _ _ _ _ _ _ _ _ _ _ _ _ _ _ _ _ _ _ _ _ _ _ _ _ _ _ _ _ _ _ _ _ _ _ _ _ _ _ _ _ _ _ _ hR
      · refine V_tsI (tgt := 324) (v := 6) h (dk dd_L_law_0 21 rfl) ⟨e, by decide, by decide, by decide⟩ rfl rfl ?_
        exact lc_6 h hSt hSc hsc hcs i ⟨hi0.1, by omega, hLn⟩ hk _ _ _ _ _ _ _ _ _ _ _ _ _ _ _ _ _ _ _ _ _ _ _ _ _ _ _ _ _ _ _ _ _ _ _ _ _ _ _ _ _ _ _ _ _ _ _ _ _ _ _ _ hR
      · refine V_tsI (tgt := 347) (v := 7) h (dk dd_L_law_0 21 rfl) ⟨e, by decide, by decide, by decide⟩ rfl rfl ?_
        exact lc_7 h hSt hSc hsc hcs i ⟨hi0.1, by omega, hLn⟩ hk _ _ _ _ _ _ _ _ _ _ _ _ _ _ _ _ _ _ _ _ _ _ _ _ _ _ _ _ _ _ _ _ _ _ _ _ _ _ _ _ _ _ _ _ _ _ _ _ _ _ _ _ hR
      · refine V_tsI (tgt := 360) (v := 8) h (dk dd_L_law_0 21 rfl) ⟨e, by decide, by decide, by decide⟩ rfl rfl ?_
        exact lc_8 h hSt hSc hsc hcs i ⟨hi0.1, by omega, hLn⟩ hk _ _ _ _ _ _ _ _ _ _ _ _ _ _ _ _ _ _ _ _ _ _ _ _ _ _ _ _ _ _ _ _ _ _ _ _ _ _ _ _ _ _ _ _ _ _ _ _ _ _ _ _ hR
      · refine V_tsI (tgt := 373) (v := 9) h (dk dd_L_law_0 21 rfl) ⟨e, by decide, by decide, by decide⟩ rfl rfl ?_
        exact lc_9 h hSt hSc hsc hcs i ⟨hi0.1, by omega, hLn⟩ hk _ _ _ _ _ _ _ _ _ _ _ _ _ _ _ _ _ _ _ _ _ _ _ _ _ _ _ _ _ _ _ _ _ _ _ _ _ _ _ _ _ _ _ _ _ _ _ _ _ _ _ _ hR
      · refine V_tsI (tgt := 416) (v := 10) h (dk dd_L_law_0 21 rfl) ⟨e, by decide, by decide, by decide⟩ rfl rfl ?_
        exact lc_10 h hSt hSc hsc hcs i ⟨hi0.1, by omega, hLn⟩ hk _ _ _ _ _ _ _ _ _ _ _ _ _ _ _ _ _ _ _ _ _ _ _ _ _ _ _ _ _ _ _ _ _ _ _ _ _ _ _ _ _ _ _ _ _ _ _ _ _ _ _ _ hR
      · refine V_tsI (tgt := 429) (v := 11) h (dk dd_L_law_0 21 rfl) ⟨e, by decide, by decide, by decide⟩ rfl rfl ?_
        exact lc_11 h hSt hSc hsc hcs i ⟨hi0.1, by omega, hLn⟩ hk _ _ _ _ _ _ _ _ _ _ _ _ _ _ _ _ _ _ _ _ _ _ _ _ _ _ _ _ _ _ _ _ _ _ _ _ _ _ _ _ _ _ _ _ _ _ _ _ _ _ _ _ hR
      · refine V_tsI (tgt := 463) (v := 12) h (dk dd_L_law_0 21 rfl) ⟨e, by decide, by decide, by decide⟩ rfl rfl ?_
        exact lc_12 h hSt hSc hsc hcs i ⟨hi0.1, by omega, hLn⟩ hk _ _ _ _ _ _ _ _ _ _ _ _ _ _ _ _ _ _ _ _ _ _ _ _ _ _ _ _ _ _ _ _ _ _ _ _ _ _ _ _ _ _ _ _ _ _ _ _ _ _ _ _ hR
      · refine V_tsI (tgt := 476) (v := 13) h (dk dd_L_law_0 21 rfl) ⟨e, by decide, by decide, by decide⟩ rfl rfl ?_
        exact lc_13 h hSt hSc hsc hcs i ⟨hi0.1, by omega, hLn⟩ hk _ _ _ _ _ _ _ _ _ _ _ _ _ _ _ _ _ _ _ _ _ _ _ _ _ _ _ _ _ _ _ _ _ _ _ _ _ _ _ _ _ _ _ _ _ _ _ _ _ _ _ _ hR
      · refine V_tsI (tgt := 489) (v := 14) h (dk dd_L_law_0 21 rfl) ⟨e, by decide, by decide, by decide⟩ rfl rfl ?_
        exact lc_14 h hSt hSc hsc hcs i ⟨hi0.1, by omega, hLn⟩ hk _ _ _ _ _ _ _ _ _ _ _ _ _ _ _ _ _ _ _ _ _ _ _ _ _ _ _ _ _ _ _ _ _ _ _ _ _ _ _ _ _ _ _ _ _ _ _ _ _ _ _ _ hR
      · refine V_tsI (tgt := 502) (v := 15) h (dk dd_L_law_0 21 rfl) ⟨e, by decide, by decide, by decide⟩ rfl rfl ?_
        exact lc_15 h hSt hSc hsc hcs i ⟨hi0.1, by omega, hLn⟩ hk _ _ _ _ _ _ _ _ _ _ _ _ _ _ _ _ _ _ _ _ _ _ _ _ _ _ _ _ _ _ _ _ _ _ _ _ _ _ _ _ _ _ _ _ _ _ _ _ _ _ _ _ hR
      · refine V_tsI (tgt := 536) (v := 16) h (dk dd_L_law_0 21 rfl) ⟨e, by decide, by decide, by decide⟩ rfl rfl ?_
        exact lc_16 h hSt hSc hsc hcs i ⟨hi0.1, by omega, hLn⟩ hk _ _ _ _ _ _ _ _ _ _ _ _ _ _ _ _ _ _ _ _ _ _ _ _ _ _ _ _ _ _ _ _ _ _ _ _ _ _ _ _ _ _ _ _ _ _ _ _ _ _ _ _ hR
      · refine V_tsI (tgt := 559) (v := 17) h (dk dd_L_law_0 21 rfl) ⟨e, by decide, by decide, by decide⟩ rfl rfl ?_
        exact lc_17 h hSt hSc hsc hcs i ⟨hi0.1, by omega, hLn⟩ hk _ _ _ _ _ _ _ _ _ _ _ _ _ _ _ _ _ _ _ _ _ _ _ _ _ _ _ _ _ _ _ _ _ _ _ _ _ _ _ _ _ _ _ _ _ _ _ _ _ _ _ _ hR
      · refine V_tsI (tgt := 602) (v := 18) h (dk dd_L_law_0 21 rfl) ⟨e, by decide, by decide, by decide⟩ rfl rfl ?_
        exact lc_18 h hSt hSc hsc hcs i ⟨hi0.1, by omega, hLn⟩ hk _ _ _ _ _ _ _ _ _ _ _ _ _ _ _ _ _ _ _ _ _ _ _ _ _ _ _ _ _ _ _ _ _ _ _ _ _ _ _ _ _ _ _ _ _ _ _ _ _ _ _ _ hR
      · refine V_tsI (tgt := 625) (v := 19) h (dk dd_L_law_0 21 rfl) ⟨e, by decide, by decide, by decide⟩ rfl rfl ?_
        exact lc_19 h hSt hSc hsc hcs i ⟨hi0.1, by omega, hLn⟩ hk _ _ _ _ _ _ _ _ _ _ _ _ _ _ _ _ _ _ _ _ _ _ _ _ _ _ _ _ _ _ _ _ _ _ _ _ _ _ _ _ _ _ _ _ _ _ _ _ _ _ _ _ hR
      · refine V_tsI (tgt := 648) (v := 20) h (dk dd_L_law_0 21 rfl) ⟨e, by decide, by decide, by decide⟩ rfl rfl ?_
        exact lc_20 h hSt hSc hsc hcs i ⟨hi0.1, by omega, hLn⟩ hk _ _ _ _ _ _ _ _ _ _ _ _ _ _ _ _ _ _ _ _ _ _ _ _ _ _ _ _ _ _ _ _ _ _ _ _ _ _ _ _ _ _ _ _ _ _ _ _ _ _ _ _ hR
      · refine V_tsI (tgt := 671) (v := 21) h (dk dd_L_law_0 21 rfl) ⟨e, by decide, by decide, by decide⟩ rfl rfl ?_
        exact lc_21 h hSt hSc hsc hcs i ⟨hi0.1, by omega, hLn⟩ hk _ _ _ _ _ _ _ _ _ _ _ _ _ _ _ _ _ _ _ _ _ _ _ _ _ _ _ _ _ _ _ _ _ _ _ _ _ _ _ _ _ _ _ _ _ _ _ _ _ _ _ _ hR
      · refine V_tsI (tgt := 694) (v := 22) h (dk dd_L_law_0 21 rfl) ⟨e, by decide, by decide, by decide⟩ rfl rfl ?_
        exact lc_22 h hSt hSc hsc hcs i ⟨hi0.1, by omega, hLn⟩ hk _ _ _ _ _ _ _ _ _ _ _ _ _ _ _ _ _ _ _ _ _ _ _ _ _ _ _ _ _ _ _ _ _ _ _ _ _ _ _ _ _ _ _ _ _ _ _ _ _ _ _ _ hR
      · refine V_tsI (tgt := 717) (v := 23) h (dk dd_L_law_0 21 rfl) ⟨e, by decide, by decide, by decide⟩ rfl rfl ?_
        exact lc_23 h hSt hSc hsc hcs i ⟨hi0.1, by omega, hLn⟩ hk _ _ _ _ _ _ _ _ _ _ _ _ _ _ _ _ _ _ _ _ _ _ _ _ _ _ _ _ _ _ _ _ _ _ _ _ _ _ _ _ _ _ _ _ _ _ _ _ _ _ _ _ hR
      · refine V_tsI (tgt := 760) (v := 24) h (dk dd_L_law_0 21 rfl) ⟨e, by decide, by decide, by decide⟩ rfl rfl ?_
        exact lc_24 h hSt hSc hsc hcs i ⟨hi0.1, by omega, hLn⟩ hk _ _ _ _ _ _ _ _ _ _ _ _ _ _ _ _ _ _ _ _ _ _ _ _ _ _ _ _ _ _ _ _ _ _ _ _ _ _ _ _ _ _ _ _ _ _ _ _ _ _ _ _ hR
      · refine V_tsI (tgt := 783) (v := 25) h (dk dd_L_law_0 21 rfl) ⟨e, by decide, by decide, by decide⟩ rfl rfl ?_
        exact lc_25 h hSt hSc hsc hcs i ⟨hi0.1, by omega, hLn⟩ hk _ _ _ _ _ _ _ _ _ _ _ _ _ _ _ _ _ _ _ _ _ _ _ _ _ _ _ _ _ _ _ _ _ _ _ _ _ _ _ _ _ _ _ _ _ _ _ _ _ _ _ _ hR
      · refine V_tsI (tgt := 796) (v := 26) h (dk dd_L_law_0 21 rfl) ⟨e, by decide, by decide, by decide⟩ rfl rfl ?_
        exact lc_26 h hSt hSc hsc hcs i ⟨hi0.1, by omega, hLn⟩ hk _ _ _ _ _ _ _ _ _ _ _ _ _ _ _ _ _ _ _ _ _ _ _ _ _ _ _ _ _ _ _ _ _ _ _ _ _ _ _ _ _ _ _ _ _ _ _ _ _ _ _ _ hR
      · refine V_tsO (tgt := 810) h (dk dd_L_law_0 21 rfl) ⟨hiR, e⟩ rfl ?_
        exact hk _ _ _ _ _ _ _ _ _ _ _ _ _ _ _ _ _ _ _ _ _ _ _ _ _ _ _ _ _ _ _ _ _ _ _ _ _ _ _ _ _ _ _ _ _ _ _ _ _ _ _ _ hR

