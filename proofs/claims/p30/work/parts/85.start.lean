/-! the start: what is known of the classes -/
theorem arr_of {s : State} {args : Array Value} {ty : FieldType} (h : (Cond.arrayClass ty).before args s = true) : ∃ c : ClassId, ArrOfT s c ty ∧ s.vm.findClass ("[" ++ ty.toString) = some c := by
  obtain ⟨c, k, comp, h1, h2, h3⟩ := Cond.arrayClass_spec h
  exact ⟨c, fun N z => ⟨(fun k h => by cases h), k, h2, comp, h3⟩, h1⟩
theorem arrq_of {s : State} {args : Array Value} {n : String} (h : (Cond.arrayOver (.object n)).before args s = true) : ∃ c : ClassId, ArrOfT s c (.object n) ∧ va_RA s c (.object n) := by
  obtain ⟨comp, c, k, h1, -, h3, h4, h5⟩ := Cond.arrayOver_spec h
  exact ⟨c, fun N z => ⟨(fun k h => by cases h), k, h3, comp, h4⟩, k, comp, h3, h4, h1, h5⟩
theorem nest_tabs : ∀ w ∈ nestW, w.onTables = true := by decide +kernel
theorem start_G {s : State} {args : Array Value} (hts : ∀ w ∈ lw_tbl, w.before args s = true) : ∃ G : GT, KK G s := by
  have ht : ∀ w ∈ lw_all, w.before args s = true := fun w h => hts w (lw_all_tbl w h)
  obtain ⟨c1, i1, k1⟩ := u_known ht inX1 (ht _ q1_152)
  obtain ⟨c2, i2, k2⟩ := u_known ht inX2 (ht _ q1_63)
  obtain ⟨c3, i3, k3⟩ := u_known ht inX3 (ht _ q1_114)
  obtain ⟨c4, i4, k4⟩ := u_known ht inX4 (ht _ q1_31)
  obtain ⟨c5, i5, k5⟩ := u_known ht inX5 (ht _ q1_167)
  obtain ⟨c6, i6, k6⟩ := u_known ht inX6 (ht _ q1_138)
  obtain ⟨c7, i7, k7⟩ := u_known ht inX7 (ht _ q1_179)
  obtain ⟨c8, i8, k8⟩ := u_known ht inX8 (ht _ q1_106)
  obtain ⟨c9, i9, k9⟩ := u_known ht inX9 (ht _ q1_80)
  obtain ⟨c10, i10, k10⟩ := u_known ht inX10 (ht _ q1_25)
  obtain ⟨c11, i11, k11⟩ := u_known ht inX11 (ht _ q1_17)
  obtain ⟨aI, aI1, aI2⟩ := arr_of (ht _ q1_45)
  obtain ⟨aJ, aJ1, aJ2⟩ := arr_of (ht _ q1_136)
  obtain ⟨aC, aC1, aC2⟩ := arr_of (ht _ q1_104)
  obtain ⟨aR, aR1, aR2⟩ := arrq_of (hts _ q1_112)
  obtain ⟨aW, aW1, aW2⟩ := arrq_of (hts _ q1_69)
  refine ⟨((fun c => match c with | 0 => c1 | 1 => c2 | 2 => c3 | 3 => c4 | 4 => c5 | 5 => c6 | 6 => c7 | 7 => c8 | 8 => c9 | 9 => c10 | _ => c11, fun c => match c with | 0 => i1 | 1 => i2 | 2 => i3 | 3 => i4 | 4 => i5 | 5 => i6 | 6 => i7 | 7 => i8 | 8 => i9 | 9 => i10 | _ => i11), fun t => match t with | 0 => aI | 1 => aJ | 2 => aI | 3 => aC | 4 => aR | _ => aW), ⟨fun c q hq => ?_, fun k q hk => ?_⟩, fun w hw => ?_, va_AO.of (hts _ q1_112), va_AO.of (hts _ q1_69)⟩
  · match c, hq with
    | 0, hq => cases hq; exact k1
    | 1, hq => cases hq; exact k2
    | 2, hq => cases hq; exact k3
    | 3, hq => cases hq; exact k4
    | 4, hq => cases hq; exact k5
    | 5, hq => cases hq; exact k6
    | 6, hq => cases hq; exact k7
    | 7, hq => cases hq; exact k8
    | 8, hq => cases hq; exact k9
    | 9, hq => cases hq; exact k10
    | 10, hq => cases hq; exact k11
    | n + 11, hq => cases hq
  · match k, hk with
    | 0, hk => cases hk; exact ⟨aI1, aI2⟩
    | 1, hk => cases hk; exact ⟨aJ1, aJ2⟩
    | 2, hk => cases hk; exact ⟨aI1, aI2⟩
    | 3, hk => cases hk; exact ⟨aC1, aC2⟩
    | 4, hk => cases hk; exact ⟨aR1, aR2⟩
    | 5, hk => cases hk; exact ⟨aW1, aW2⟩
    | n + 6, hk => cases hk
  · exact va_Nw.of (nest_tabs w hw) (hts w (nestW_in w hw))
theorem Fok_0 : Fok FP.fconst0 := mean_ok (es := 0) (nh := 0) (by decide)

set_option maxHeartbeats 8000000 in
set_option maxRecDepth 100000 in
theorem law_0 {l : Launch} {G : GT} {nm : String} {K : KT} (h : Good l G RL nm cL_law 9 room_1 K) {bS Ln : Nat} {sc : Int → Int} (hSc : ScrK bS Ln sc K) (hsc : ∀ j, R32 (sc j)) (hLn : (Ln : Int) ≤ 260) (hEnd : ∀ cs : Nat × Nat, cs.1 ≤ 600000 → cs.2 ≤ 7302250 → ∀ (lv : List (Option Value)) (ws : va_W), V K cs 553 lv [.int (iZ 1)] ws) {x w hi tx sh pw aw sa sg fd fa rr lo mk ea pt lb lc eb mb pb : Nat} {ra : Int → Nat} (wa pa aa : Nat → Nat) (N L T : Nat → Int) (F : Nat → Int → Int) {c1 c2 : Nat} (hcs : c1 ≤ 136 ∧ c2 ≤ 5444) : V K (c1, c2) 8 [some (.ref bS), some (.ref x), none, none, none, none, none, none, none] [] ((x, .inr (10, [.ref w, .ref hi, .ref tx, .ref sh])) :: (w, .inr (9, [.ref pw, .int (iZ 10), .int (iZ 1000)])) :: (pw, .inr (3, [.ref aw, .int (iZ 0)])) :: (aw, .inl (G.2 0, 48, .inl (iF z0))) :: (hi, .inr (1, [.ref sa, .int (iZ 0)])) :: (sa, .inl (G.2 5, 5, .inr (.inr (.inr (.inr (arr5 wa)))))) :: ((wa 0), .inr (9, [.ref (pa 0), .int (iZ (L 0)), .int (iZ (T 0))])) :: ((pa 0), .inr (3, [.ref (aa 0), .int (iZ (N 0))])) :: ((aa 0), .inl (G.2 0, 48, .inl (iF (F 0)))) :: ((wa 1), .inr (9, [.ref (pa 1), .int (iZ (L 1)), .int (iZ (T 1))])) :: ((pa 1), .inr (3, [.ref (aa 1), .int (iZ (N 1))])) :: ((aa 1), .inl (G.2 0, 48, .inl (iF (F 1)))) :: ((wa 2), .inr (9, [.ref (pa 2), .int (iZ (L 2)), .int (iZ (T 2))])) :: ((pa 2), .inr (3, [.ref (aa 2), .int (iZ (N 2))])) :: ((aa 2), .inl (G.2 0, 48, .inl (iF (F 2)))) :: ((wa 3), .inr (9, [.ref (pa 3), .int (iZ (L 3)), .int (iZ (T 3))])) :: ((pa 3), .inr (3, [.ref (aa 3), .int (iZ (N 3))])) :: ((aa 3), .inl (G.2 0, 48, .inl (iF (F 3)))) :: ((wa 4), .inr (9, [.ref (pa 4), .int (iZ (L 4)), .int (iZ (T 4))])) :: ((pa 4), .inr (3, [.ref (aa 4), .int (iZ (N 4))])) :: ((aa 4), .inl (G.2 0, 48, .inl (iF (F 4)))) :: (tx, .inr (8, [.ref sg, .ref fd, .int (iZ 0), .int (iZ 0), .int (iZ 0), .int (iZ 0)])) :: (sg, .inl (G.2 3, 60, .inl (iF z0))) :: (fd, .inr (3, [.ref fa, .int (iZ 0)])) :: (fa, .inl (G.2 0, 48, .inl (iF z0))) :: (sh, .inr (7, [.ref rr, .ref lo, .ref mk, .ref ea, .ref pt, .int (iZ 0)])) :: (rr, .inl (G.2 4, 100, .inr (.inr (.inr (.inr (rayA ra)))))) :: (lo, .inr (2, [.ref lb, .ref lc, .int (iZ 0), .int (iZ 0), .long (lZ 0)])) :: (lb, .inl (G.2 1, 3000, .inr (.inl (lF z0)))) :: (lc, .inl (G.2 0, 600, .inl (iF z0))) :: (mk, .inr (5, [.ref mb, .int (iZ 0)])) :: (mb, .inl (G.2 1, 434, .inr (.inl (lF z0)))) :: (ea, .inr (0, [.ref eb])) :: (eb, .inl (G.2 1, 48, .inr (.inl (lF (ear0 z0 12))))) :: (pt, .inr (4, [.ref pb, .int (iZ 0)])) :: (pb, .inl (G.2 0, 201, .inl (iF z0))) :: raysW ra (fun _ => 0) (fun _ => 0) (fun _ => 0) (fun _ => 0) (fun _ => 0)) := by
  refine V_aload_n h (dk dd_L_law_0 4 rfl) rfl get1 ?_
  refine V_callVc h st1 ci_L_106 (pk_c get0 (pk_c get1 (pk_c get2 (pk_c get3 (pk_c get4 (pk_c get5 (pk_c get6 (pk_c get7 (pk_c get8 (pk_c get9 (pk_c get10 (pk_c get11 (pk_c get12 (pk_c get13 (pk_c get14 (pk_c get15 (pk_c get16 (pk_c get17 (pk_c get18 (pk_c get19 (pk_c get20 pk_n))))))))))))))))))))) rfl 0 get0 (m_undo_none l G _ _ _ _ _ _ _ _ _ _ _ _ _ _ _ _ _ _ _ _ (rfl)) rfl rfl rfl (by decide) (Nat.le_of_ble_eq_true rfl) ⟨rfl, rfl⟩ (cs_ok (by omega) (by omega)) (dk dd_L_law_0 5 rfl) sk1 (sm_c set0 (sm_c set1 (sm_c set2 (sm_c set3 (sm_c set4 (sm_c set5 (sm_c set6 (sm_c set7 (sm_c set8 (sm_c set9 (sm_c set10 (sm_c set11 (sm_c set12 (sm_c set13 (sm_c set14 (sm_c set15 (sm_c set16 (sm_c set17 (sm_c set18 (sm_c set19 (sm_c set20 sm_n))))))))))))))))))))) ?_
  refine V_ldc h q3_91 (dk dd_L_law_0 6 rfl) ?_
  refine V_icmp_ne (tgt := 79) h (dk dd_L_law_0 7 rfl) rfl (by omega) (fun c14 => ?_) (fun c14 => ?_)
  · exfalso; omega
  · refine V_aload_n h (dk dd_L_law_0 8 rfl) rfl get1 ?_
    refine V_callVc h st1 ci_L_22 (pk_c get0 (pk_c get1 (pk_c get2 (pk_c get3 pk_n)))) rfl 0 get0 (m_X11_parts l G _ _ _ _ _ _ _ _ _ _ _ ) rfl rfl rfl (by decide) (Nat.le_of_ble_eq_true rfl) ⟨rfl, rfl⟩ (cs_ok (by omega) (by omega)) (dk dd_L_law_0 9 rfl) sk1 (sm_c set0 (sm_c set1 (sm_c set2 (sm_c set3 sm_n)))) ?_
    refine V_if_ne (tgt := 79) h (dk dd_L_law_0 10 rfl) rfl (by omega) (fun c21 => ?_) (fun c21 => ?_)
    · exfalso; omega
    · refine V_aload_n h (dk dd_L_law_0 11 rfl) rfl get1 ?_
      refine V_callVc h st1 ci_L_44 (pk_c get0 (pk_c get25 (pk_c get27 (pk_c get28 (pk_c get29 pk_n))))) rfl 0 get0 (m_X11_hits l G _ _ _ _ _ _ _ _ _ _ _ _ _ _ _ _ _ _ ) rfl rfl rfl (by decide) (Nat.le_of_ble_eq_true rfl) ⟨rfl, rfl⟩ (cs_ok (by omega) (by omega)) (dk dd_L_law_0 12 rfl) sk1 (sm_c set0 (sm_c set25 (sm_c set27 (sm_c set28 (sm_c set29 sm_n))))) ?_
      refine V_if_ne (tgt := 79) h (dk dd_L_law_0 13 rfl) rfl (by omega) (fun c28 => ?_) (fun c28 => ?_)
      · exfalso; omega
      · refine V_aload_n h (dk dd_L_law_0 14 rfl) rfl get1 ?_
        refine V_callVc h st1 ci_L_87 (pk_c get0 (pk_c get25 pk_n)) rfl 0 get0 (m_X11_rays l G _ _ _ _ _ _ _ _ _ _ _ ) rfl rfl rfl (by decide) (Nat.le_of_ble_eq_true rfl) ⟨rfl, rfl⟩ (cs_ok (by omega) (by omega)) (dk dd_L_law_0 15 rfl) sk1 (sm_c set0 (sm_c set25 sm_n)) ?_
        refine V_if_ne (tgt := 79) h (dk dd_L_law_0 16 rfl) rfl (by omega) (fun c35 => ?_) (fun c35 => ?_)
        · exfalso; omega
        · refine V_aload_n h (dk dd_L_law_0 17 rfl) rfl get1 ?_
          refine V_callVc h st1 ci_L_97 (pk_c get0 (pk_c get25 (pk_c get30 (pk_c get31 pk_n)))) rfl 0 get0 (m_X11_coverage l G _ _ _ _ _ _ _ _ _ _ _ _ _ _ ) rfl rfl rfl (by decide) (Nat.le_of_ble_eq_true rfl) ⟨rfl, rfl⟩ (cs_ok (by omega) (by omega)) (dk dd_L_law_0 18 rfl) sk1 (sm_c set0 (sm_c set25 (sm_c set30 (sm_c set31 sm_n)))) ?_
          refine V_if_ne (tgt := 79) h (dk dd_L_law_0 19 rfl) rfl (by omega) (fun c42 => ?_) (fun c42 => ?_)
          · exfalso; omega
          · refine V_aload_n h (dk dd_L_law_0 20 rfl) rfl get1 ?_
            refine V_callVc h st1 ci_L_100 (pk_c get0 (pk_c get25 (pk_c get30 (pk_c get31 pk_n)))) rfl 0 get0 (m_X11_gap l G _ _ _ _ _ _ _ _ _ _ _ _ _ _ (by decide) (fun i => (show R64 0 by decide))) rfl rfl rfl (by decide) (Nat.le_of_ble_eq_true rfl) ⟨rfl, rfl⟩ (cs_ok (by omega) (by omega)) (dk dd_L_law_0 21 rfl) sk1 (sm_c set0 (sm_c set25 (sm_c set30 (sm_c set31 sm_n)))) ?_
            rw [show gapC z0 0 = 27720 from if_pos rfl]
            refine V_sipush h (dk dd_L_law_0 22 rfl) (by decide) ?_
            refine V_icmp_ne (tgt := 79) h (dk dd_L_law_0 23 rfl) rfl (by omega) (fun c52 => ?_) (fun c52 => ?_)
            · exfalso; omega
            · refine V_aload_n h (dk dd_L_law_0 24 rfl) rfl get1 ?_
              refine V_callVc h st1 ci_L_90 (pk_c get0 (pk_c get25 (pk_c get27 (pk_c get28 (pk_c get29 pk_n))))) rfl 0 get0 (m_X11_mean l G _ _ _ _ _ _ _ _ _ _ _ _ _ _ _ _ _ _ (by decide)) rfl rfl rfl (by decide) (Nat.le_of_ble_eq_true rfl) ⟨rfl, rfl⟩ (cs_ok (by omega) (by omega)) (dk dd_L_law_0 25 rfl) sk1 (sm_c set0 (sm_c set25 (sm_c set27 (sm_c set28 (sm_c set29 sm_n))))) ?_
              rw [show meanV 0 0 = FP.fconst0 from if_pos rfl]
              refine V_fconst0 h (dk dd_L_law_0 26 rfl) ?_
              refine V_fcmp_same h Fok_0 (dk dd_L_law_0 27 rfl) ?_
              refine V_if_ne (tgt := 79) h (dk dd_L_law_0 28 rfl) rfl (by omega) (fun c61 => ?_) (fun c61 => ?_)
              · exfalso; omega
              · refine V_aload_n h (dk dd_L_law_0 29 rfl) rfl get1 ?_
                refine V_iconst h (dk dd_L_law_0 30 rfl) ?_
                refine V_callVc h st2 ci_L_60 (pk_c get0 (pk_c get25 (pk_c get34 (pk_c get35 pk_n)))) rfl 0 get0 (m_crossings_ok l G _ _ _ _ _ _ _ _ _ _ _ _ _ _ _ (by decide) (by decide) (fun j a b => by omega)) rfl rfl rfl (by decide) (Nat.le_of_ble_eq_true rfl) ⟨rfl, rfl⟩ (cs_ok (by omega) (by omega)) (dk dd_L_law_0 31 rfl) sk1 (sm_c set0 (sm_c set25 (sm_c set34 (sm_c set35 sm_n)))) ?_
                rw [show pairsF z0 (min (5 + 1) 0) = 0 from rfl]
                refine V_if_ne (tgt := 79) h (dk dd_L_law_0 32 rfl) rfl (by omega) (fun c69 => ?_) (fun c69 => ?_)
                · exfalso; omega
                · refine V_aload_n h (dk dd_L_law_0 33 rfl) rfl get1 ?_
                  refine V_callSc h st1 ci_L_109 (pk_c get0 (pk_c get1 (pk_c get2 (pk_c get3 (pk_c get4 (pk_c get5 (pk_c get6 (pk_c get7 (pk_c get8 (pk_c get9 (pk_c get10 (pk_c get11 (pk_c get12 (pk_c get13 (pk_c get14 (pk_c get15 (pk_c get16 (pk_c get17 (pk_c get18 (pk_c get19 (pk_c get20 (pk_c get21 (pk_c get22 (pk_c get23 (pk_c get24 (pk_c get25 (pk_c get27 (pk_c get28 (pk_c get29 (pk_c get30 (pk_c get31 (pk_c get32 (pk_c get33 (pk_c get34 (pk_c get35 pk_n))))))))))))))))))))))))))))))))))) rfl (m_L_fails l G _ _ _ _ _ _ _ _ _ _ _ _ _ _ _ _ _ _ _ _ _ _ _ _ _ _ _ _ _ _ _ _ _ _ _ _ _ _ _ _ _ _ _ _ _ _ _ _ _ _ _ (by decide) (by decide) (by decide) (by decide) (fun j a b => by omega) (⟨by decide, fun j a b => by omega⟩) (by decide) (by decide) (by decide) (by decide)) rfl rfl (Nat.le_of_ble_eq_true rfl) (by decide) ⟨rfl, rfl⟩ (cs_ok (by omega) (by omega)) (dk dd_L_law_0 34 rfl) sk1 (sm_c set0 (sm_c set1 (sm_c set2 (sm_c set3 (sm_c set4 (sm_c set5 (sm_c set6 (sm_c set7 (sm_c set8 (sm_c set9 (sm_c set10 (sm_c set11 (sm_c set12 (sm_c set13 (sm_c set14 (sm_c set15 (sm_c set16 (sm_c set17 (sm_c set18 (sm_c set19 (sm_c set20 (sm_c set21 (sm_c set22 (sm_c set23 (sm_c set24 (sm_c set25 (sm_c set27 (sm_c set28 (sm_c set29 (sm_c set30 (sm_c set31 (sm_c set32 (sm_c set33 (sm_c set34 (sm_c set35 sm_n))))))))))))))))))))))))))))))))))) ?_
                  refine V_if_ne (tgt := 81) h (dk dd_L_law_0 35 rfl) rfl (by omega) (fun c76 => ?_) (fun c76 => ?_)
                  · refine V_aload_n h (dk dd_L_law_0 38 rfl) rfl get0 ?_
                    refine V_iconst h (dk dd_L_law_0 39 rfl) ?_
                    refine V_callSx h hSc st2 ci_L_113 pk_n rfl (m_L_cell l G _ _ _ _ (by omega) (hsc) (hLn)) rfl rfl (Nat.le_of_ble_eq_true rfl) (by decide) ⟨rfl, rfl⟩ (cs_ok (by omega) (by omega)) (dk dd_L_law_0 40 rfl) sk1 sm_n ?_
                    refine V_bipush h (dk dd_L_law_0 41 rfl) (by decide) ?_
                    refine V_callSc h st2 ci_L_103 pk_n rfl (m_L_up l G _ _ (by first | exact cell_R hsc | exact shr_R _ _ | assumption) (by decide)) rfl rfl (Nat.le_of_ble_eq_true rfl) (by decide) ⟨rfl, rfl⟩ (cs_ok (by omega) (by omega)) (dk dd_L_law_0 42 rfl) sk1 sm_n ?_
                    have w1 := up_R (cellF sc Ln 0) (show (0 : Int) < 8 by decide)
                    refine V_istore_n h (dk dd_L_law_0 43 rfl) rfl (Nat.le_of_ble_eq_true rfl) rfl set2 ?_
                    refine V_iconst h (dk dd_L_law_0 44 rfl) ?_
                    refine V_istore_n h (dk dd_L_law_0 45 rfl) rfl (Nat.le_of_ble_eq_true rfl) rfl set3 ?_
                    exact law_A h hSc hsc hLn hEnd w1 hcs _ _ _ _ _ _ _ _ _ _ rfl ⟨⟨by decide, by decide, by decide, fun j a b => by omega⟩, by decide, ⟨by decide, fun j a b => by omega⟩⟩
                  · exfalso; omega

