/-! the law aims -/
theorem to_there {p q k s w a : Int} (hq : 0 ≤ q ∧ q < 27720) (hw : k * s = q - p + 27720 * w) (ha : a = k) : (p + a * s) % 27720 = q := by
  rw [ha, hw]
  omega
theorem back_here {p a s : Int} (hp : 0 ≤ p ∧ p < 27720) (ha : a = ordF s) : (p + a * s) % 27720 = p := by
  obtain ⟨v, hv⟩ := ord_dvd s
  rw [ha, hv]
  omega

set_option maxHeartbeats 4000000 in
set_option maxRecDepth 100000 in
theorem m_L_aims (l : Launch) (G : GT) (p q k : Int) (hp : 0 ≤ p ∧ p < 27720) (hq : 0 ≤ q ∧ q < 27720) (hk : 1 ≤ k ∧ k ≤ 50) : Ctr l G yL_aims cL_aims 6 (Option.some FieldType.boolean) (rmO 7 136 5444 171) [.int (iZ p), .int (iZ q), .int (iZ k)] [] (Det (some (.int (iZ 1))) []) := by
  refine Ctr.go (own := RL) (nm := "aims") (by decide +kernel) rfl rfl [some (.int (iZ p)), some (.int (iZ q)), some (.int (iZ k)), none, none, none] 3 rfl rfl (Nat.le_of_ble_eq_true rfl) ?_
  intro K h hF
  refine V_new h nw_L_10 (⟨Nat.le_of_ble_eq_true rfl, Nat.le_of_ble_eq_true rfl⟩) (dk dd_L_aims_0 0 rfl) (fun n0 => ?_)
  refine V_dup h (dk dd_L_aims_0 1 rfl) rfl ?_
  refine V_callI h st1 (Or.inl ci_L_96) (pk_c get0 pk_n) rfl (m_X11_init l G _ ) rfl rfl (Nat.le_of_ble_eq_true rfl) (by decide) (⟨Nat.le_of_ble_eq_true rfl, Nat.le_of_ble_eq_true rfl⟩) (dk dd_L_aims_0 2 rfl) ?_
  rintro _ _ ⟨q4, rfl, rfl⟩
  refine ⟨[(n0, .inr (10, [.ref (q4 0), .ref (q4 1), .ref (q4 2), .ref (q4 3)]))], (((q4 0), .inr (9, [.ref (q4 4), .int (iZ 10), .int (iZ 1000)])) :: ((q4 4), .inr (3, [.ref (q4 5), .int (iZ 0)])) :: ((q4 5), .inl (G.2 0, 48, .inl (iF z0))) :: ((q4 1), .inr (1, [.ref (q4 6), .int (iZ 0)])) :: ((q4 6), .inl (G.2 5, 5, .inr (.inr (.inr (.inr (arr5 (fun i => ([(q4 7), (q4 10), (q4 13), (q4 16), (q4 19)] : List Nat).getD i 0))))))) :: ((q4 7), .inr (9, [.ref (q4 8), .int (iZ 10), .int (iZ 1000)])) :: ((q4 8), .inr (3, [.ref (q4 9), .int (iZ 0)])) :: ((q4 9), .inl (G.2 0, 48, .inl (iF z0))) :: ((q4 10), .inr (9, [.ref (q4 11), .int (iZ 10), .int (iZ 1000)])) :: ((q4 11), .inr (3, [.ref (q4 12), .int (iZ 0)])) :: ((q4 12), .inl (G.2 0, 48, .inl (iF z0))) :: ((q4 13), .inr (9, [.ref (q4 14), .int (iZ 10), .int (iZ 1000)])) :: ((q4 14), .inr (3, [.ref (q4 15), .int (iZ 0)])) :: ((q4 15), .inl (G.2 0, 48, .inl (iF z0))) :: ((q4 16), .inr (9, [.ref (q4 17), .int (iZ 10), .int (iZ 1000)])) :: ((q4 17), .inr (3, [.ref (q4 18), .int (iZ 0)])) :: ((q4 18), .inl (G.2 0, 48, .inl (iF z0))) :: ((q4 19), .inr (9, [.ref (q4 20), .int (iZ 10), .int (iZ 1000)])) :: ((q4 20), .inr (3, [.ref (q4 21), .int (iZ 0)])) :: ((q4 21), .inl (G.2 0, 48, .inl (iF z0))) :: ((q4 2), .inr (8, [.ref (q4 22), .ref (q4 23), .int (iZ 0), .int (iZ 0), .int (iZ 0), .int (iZ 0)])) :: ((q4 22), .inl (G.2 3, 60, .inl (iF z0))) :: ((q4 23), .inr (3, [.ref (q4 24), .int (iZ 0)])) :: ((q4 24), .inl (G.2 0, 48, .inl (iF z0))) :: ((q4 3), .inr (7, [.ref (q4 25), .ref (q4 26), .ref (q4 29), .ref (q4 31), .ref (q4 33), .int (iZ 0)])) :: ((q4 25), .inl (G.2 4, 100, .inr (.inr (.inr (.inr (rayA (fun j : Int => q4 (100 + j.toNat)))))))) :: ((q4 26), .inr (2, [.ref (q4 27), .ref (q4 28), .int (iZ 0), .int (iZ 0), .long (lZ 0)])) :: ((q4 27), .inl (G.2 1, 3000, .inr (.inl (lF z0)))) :: ((q4 28), .inl (G.2 0, 600, .inl (iF z0))) :: ((q4 29), .inr (5, [.ref (q4 30), .int (iZ 0)])) :: ((q4 30), .inl (G.2 1, 434, .inr (.inl (lF z0)))) :: ((q4 31), .inr (0, [.ref (q4 32)])) :: ((q4 32), .inl (G.2 1, 48, .inr (.inl (lF (ear0 z0 12))))) :: ((q4 33), .inr (4, [.ref (q4 34), .int (iZ 0)])) :: ((q4 34), .inl (G.2 0, 201, .inl (iF z0))) :: raysW (fun j : Int => q4 (100 + j.toNat)) (fun _ => 0) (fun _ => 0) (fun _ => 0) (fun _ => 0) (fun _ => 0)), _, rfl, rfl, (sm_c set0 sm_n), ?_⟩
  simp only [List.cons_append, List.nil_append]
  have J8 : ∀ (x w hi tx sh pw aw sa sg fd fa rr lo mk ea pt lb lc eb mb pb : Nat) (ra : Int → Nat) (wa pa aa : Nat → Nat) (N L T : Nat → Int) (F : Nat → Int → Int), True → V K (136, 5444) 8 [some (.int (iZ p)), some (.int (iZ q)), some (.int (iZ k)), some (.ref x), none, none] [] ((x, .inr (10, [.ref w, .ref hi, .ref tx, .ref sh])) :: (w, .inr (9, [.ref pw, .int (iZ 10), .int (iZ 1000)])) :: (pw, .inr (3, [.ref aw, .int (iZ 0)])) :: (aw, .inl (G.2 0, 48, .inl (iF z0))) :: (hi, .inr (1, [.ref sa, .int (iZ 0)])) :: (sa, .inl (G.2 5, 5, .inr (.inr (.inr (.inr (arr5 wa)))))) :: ((wa 0), .inr (9, [.ref (pa 0), .int (iZ (L 0)), .int (iZ (T 0))])) :: ((pa 0), .inr (3, [.ref (aa 0), .int (iZ (N 0))])) :: ((aa 0), .inl (G.2 0, 48, .inl (iF (F 0)))) :: ((wa 1), .inr (9, [.ref (pa 1), .int (iZ (L 1)), .int (iZ (T 1))])) :: ((pa 1), .inr (3, [.ref (aa 1), .int (iZ (N 1))])) :: ((aa 1), .inl (G.2 0, 48, .inl (iF (F 1)))) :: ((wa 2), .inr (9, [.ref (pa 2), .int (iZ (L 2)), .int (iZ (T 2))])) :: ((pa 2), .inr (3, [.ref (aa 2), .int (iZ (N 2))])) :: ((aa 2), .inl (G.2 0, 48, .inl (iF (F 2)))) :: ((wa 3), .inr (9, [.ref (pa 3), .int (iZ (L 3)), .int (iZ (T 3))])) :: ((pa 3), .inr (3, [.ref (aa 3), .int (iZ (N 3))])) :: ((aa 3), .inl (G.2 0, 48, .inl (iF (F 3)))) :: ((wa 4), .inr (9, [.ref (pa 4), .int (iZ (L 4)), .int (iZ (T 4))])) :: ((pa 4), .inr (3, [.ref (aa 4), .int (iZ (N 4))])) :: ((aa 4), .inl (G.2 0, 48, .inl (iF (F 4)))) :: (tx, .inr (8, [.ref sg, .ref fd, .int (iZ 0), .int (iZ 0), .int (iZ 0), .int (iZ 0)])) :: (sg, .inl (G.2 3, 60, .inl (iF z0))) :: (fd, .inr (3, [.ref fa, .int (iZ 0)])) :: (fa, .inl (G.2 0, 48, .inl (iF z0))) :: (sh, .inr (7, [.ref rr, .ref lo, .ref mk, .ref ea, .ref pt, .int (iZ 0)])) :: (rr, .inl (G.2 4, 100, .inr (.inr (.inr (.inr (rayA ra)))))) :: (lo, .inr (2, [.ref lb, .ref lc, .int (iZ 0), .int (iZ 0), .long (lZ 0)])) :: (lb, .inl (G.2 1, 3000, .inr (.inl (lF z0)))) :: (lc, .inl (G.2 0, 600, .inl (iF z0))) :: (mk, .inr (5, [.ref mb, .int (iZ 0)])) :: (mb, .inl (G.2 1, 434, .inr (.inl (lF z0)))) :: (ea, .inr (0, [.ref eb])) :: (eb, .inl (G.2 1, 48, .inr (.inl (lF (ear0 z0 12))))) :: (pt, .inr (4, [.ref pb, .int (iZ 0)])) :: (pb, .inl (G.2 0, 201, .inl (iF z0))) :: raysW ra (fun _ => 0) (fun _ => 0) (fun _ => 0) (fun _ => 0) (fun _ => 0)) := by
    intro x w hi tx sh pw aw sa sg fd fa rr lo mk ea pt lb lc eb mb pb ra wa pa aa N L T F hJ8
    refine V_aload_n h (dk dd_L_aims_0 4 rfl) rfl get3 ?_
    refine V_iload_n h (dk dd_L_aims_0 5 rfl) rfl get0 ?_
    refine V_iload_n h (dk dd_L_aims_0 6 rfl) rfl get1 ?_
    refine V_iload_n h (dk dd_L_aims_0 7 rfl) rfl get2 ?_
    by_cases hn : aimF (q - p) k = 0
    · have hAN : k = 1 → ((q - p) + 27720) % 27720 = 0 ∨ ((q - p) + 27720) % 27720 = 13860 := fun e => aim_none (by omega) (by subst e; exact hn)
      refine V_callVc h st4 ci_L_75 pk_n rfl 0 get0 (m_aim_none2 l G _ _ _ _ (by omega) (by omega)) rfl rfl rfl (by decide) (Nat.le_of_ble_eq_true rfl) ⟨rfl, rfl⟩ ⟨Nat.le_of_ble_eq_true rfl, Nat.le_of_ble_eq_true rfl⟩ (dk dd_L_aims_0 8 rfl) sk1 sm_n ?_
      refine V_istore h (dk dd_L_aims_0 9 rfl) (Nat.le_of_ble_eq_true rfl) rfl set4 ?_
      refine V_iload h (dk dd_L_aims_0 10 rfl) get4 ?_
      refine V_ldc h q3_91 (dk dd_L_aims_0 11 rfl) ?_
      refine V_icmp_ne (tgt := 66) h (dk dd_L_aims_0 12 rfl) rfl (by omega) (fun c21 => ?_) (fun c21 => ?_)
      · exfalso; omega
      · refine V_iload_n h (dk dd_L_aims_0 13 rfl) rfl get2 ?_
        refine V_iconst h (dk dd_L_aims_0 14 rfl) ?_
        refine V_icmp_gt (tgt := 60) h (dk dd_L_aims_0 15 rfl) rfl (by omega) (fun c26 => ?_) (fun c26 => ?_)
        · refine V_iconst h (dk dd_L_aims_0 33 rfl) ?_
          refine V_goto (tgt := 65) h (dk dd_L_aims_0 34 rfl) rfl ?_
          refine V_perm (is := []) pk_n rfl ?_
          refine V_zret h hF (dk dd_L_aims_0 36 rfl) ⟨Nat.le_of_ble_eq_true rfl, Nat.le_of_ble_eq_true rfl⟩ (by first | exact Or.inr rfl | exact Or.inl rfl | exact bZ_01 | omega) ?_
          exact det_i rfl rfl
        · refine V_iload_n h (dk dd_L_aims_0 16 rfl) rfl get1 ?_
          refine V_iload_n h (dk dd_L_aims_0 17 rfl) rfl get0 ?_
          refine V_isub h (dk dd_L_aims_0 18 rfl) ?_
          refine V_sipush h (dk dd_L_aims_0 19 rfl) (by decide) ?_
          refine V_iadd h (dk dd_L_aims_0 20 rfl) ?_
          refine V_sipush h (dk dd_L_aims_0 21 rfl) (by decide) ?_
          refine V_iremP h (dk dd_L_aims_0 22 rfl) (by omega) ?_
          refine V_if_eq (tgt := 60) h (dk dd_L_aims_0 23 rfl) rfl (by omega) (fun c40 => ?_) (fun c40 => ?_)
          · refine V_iconst h (dk dd_L_aims_0 33 rfl) ?_
            refine V_goto (tgt := 65) h (dk dd_L_aims_0 34 rfl) rfl ?_
            refine V_perm (is := []) pk_n rfl ?_
            refine V_zret h hF (dk dd_L_aims_0 36 rfl) ⟨Nat.le_of_ble_eq_true rfl, Nat.le_of_ble_eq_true rfl⟩ (by first | exact Or.inr rfl | exact Or.inl rfl | exact bZ_01 | omega) ?_
            exact det_i rfl rfl
          · refine V_iload_n h (dk dd_L_aims_0 24 rfl) rfl get1 ?_
            refine V_iload_n h (dk dd_L_aims_0 25 rfl) rfl get0 ?_
            refine V_isub h (dk dd_L_aims_0 26 rfl) ?_
            refine V_sipush h (dk dd_L_aims_0 27 rfl) (by decide) ?_
            refine V_iadd h (dk dd_L_aims_0 28 rfl) ?_
            refine V_sipush h (dk dd_L_aims_0 29 rfl) (by decide) ?_
            refine V_iremP h (dk dd_L_aims_0 30 rfl) (by omega) ?_
            refine V_sipush h (dk dd_L_aims_0 31 rfl) (by decide) ?_
            refine V_icmp_ne (tgt := 64) h (dk dd_L_aims_0 32 rfl) rfl (by omega) (fun c57 => ?_) (fun c57 => ?_)
            · exfalso; omega
            · refine V_iconst h (dk dd_L_aims_0 33 rfl) ?_
              refine V_goto (tgt := 65) h (dk dd_L_aims_0 34 rfl) rfl ?_
              refine V_perm (is := []) pk_n rfl ?_
              refine V_zret h hF (dk dd_L_aims_0 36 rfl) ⟨Nat.le_of_ble_eq_true rfl, Nat.le_of_ble_eq_true rfl⟩ (by first | exact Or.inr rfl | exact Or.inl rfl | exact bZ_01 | omega) ?_
              exact det_i rfl rfl
    · obtain ⟨hs, w, hw⟩ := aim_some (d := q - p) (c := k) (by omega) (by omega) hn
      have hs1 := hs.1
      have hs2 := hs.2.1
      have hs3 := hs.2.2
      have hO := ordF_R (aimF (q - p) k)
      have hD1 : 0 ≤ 27720 / ordF (aimF (q - p) k) ∧ 27720 / ordF (aimF (q - p) k) ≤ 27720 := ⟨Int.ediv_nonneg (by decide) (by omega), Int.ediv_le_self _ (by decide)⟩
      refine V_callVc h st4 ci_L_75 pk_n rfl 0 get0 (m_aim_in l G _ _ _ _ (by omega) (by omega)) rfl rfl rfl (by decide) (Nat.le_of_ble_eq_true rfl) ⟨rfl, rfl⟩ ⟨Nat.le_of_ble_eq_true rfl, Nat.le_of_ble_eq_true rfl⟩ (dk dd_L_aims_0 8 rfl) sk1 sm_n ?_
      refine V_istore h (dk dd_L_aims_0 9 rfl) (Nat.le_of_ble_eq_true rfl) rfl set4 ?_
      refine V_iload h (dk dd_L_aims_0 10 rfl) get4 ?_
      refine V_ldc h q3_91 (dk dd_L_aims_0 11 rfl) ?_
      refine V_icmp_ne (tgt := 66) h (dk dd_L_aims_0 12 rfl) rfl (by omega) (fun c21 => ?_) (fun c21 => ?_)
      · refine V_iload h (dk dd_L_aims_0 37 rfl) get4 ?_
        refine V_if_eq (tgt := 119) h (dk dd_L_aims_0 38 rfl) rfl (by omega) (fun c68 => ?_) (fun c68 => ?_)
        · exfalso; omega
        · refine V_aload_n h (dk dd_L_aims_0 39 rfl) rfl get3 ?_
          refine V_iconst h (dk dd_L_aims_0 40 rfl) ?_
          refine V_callVc h st2 ci_L_34 (pk_c get0 (pk_c get1 (pk_c get2 (pk_c get3 (pk_c get4 (pk_c get5 (pk_c get6 (pk_c get7 (pk_c get8 (pk_c get9 (pk_c get10 (pk_c get11 (pk_c get12 (pk_c get13 (pk_c get14 (pk_c get15 (pk_c get16 (pk_c get17 (pk_c get18 (pk_c get19 (pk_c get20 pk_n))))))))))))))))))))) rfl 0 get0 (m_setLoss_ok l G _ _ _ _ _ _ _ _ _ _ _ _ _ _ _ _ _ _ _ _ _ (by omega) (by omega) (by omega) (by omega)) rfl rfl rfl (by decide) (Nat.le_of_ble_eq_true rfl) ⟨rfl, rfl⟩ ⟨Nat.le_of_ble_eq_true rfl, Nat.le_of_ble_eq_true rfl⟩ (dk dd_L_aims_0 41 rfl) sk1 (sm_c set0 (sm_c set1 (sm_c set2 (sm_c set3 (sm_c set4 (sm_c set5 (sm_c set6 (sm_c set7 (sm_c set8 (sm_c set9 (sm_c set10 (sm_c set11 (sm_c set12 (sm_c set13 (sm_c set14 (sm_c set15 (sm_c set16 (sm_c set17 (sm_c set18 (sm_c set19 (sm_c set20 sm_n))))))))))))))))))))) ?_
          refine V_bipush h (dk dd_L_aims_0 42 rfl) (by decide) ?_
          refine V_icmp_ne (tgt := 119) h (dk dd_L_aims_0 43 rfl) rfl (by omega) (fun c78 => ?_) (fun c78 => ?_)
          · exfalso; omega
          · refine V_aload_n h (dk dd_L_aims_0 44 rfl) rfl get3 ?_
            refine V_iload_n h (dk dd_L_aims_0 45 rfl) rfl get0 ?_
            refine V_iload h (dk dd_L_aims_0 46 rfl) get4 ?_
            refine V_sipush h (dk dd_L_aims_0 47 rfl) (by decide) ?_
            refine V_callVc h st4 ci_L_40 (pk_c get0 (pk_c get25 (pk_c get26 (pk_c get27 (pk_c get28 (pk_c get29 (pk_c get30 (pk_c get31 (pk_c get32 (pk_c get33 (pk_c get34 (pk_c get35 (pk_c get1 (pk_c get2 (pk_c get3 pt36))))))))))))))) (by decide +kernel) 0 get0 (m_shoot_ok l G _ _ _ _ _ _ _ _ _ _ _ _ _ _ _ _ _ _ _ _ _ _ _ _ _ _ _ _ _ _ _ _ _ _ _ _ _ _ _ _ _ (by omega) (by omega) (by decide) (⟨hp, hs, by decide⟩) (⟨by decide, by decide, by decide, fun j a b => by omega⟩) (fun i => (show R64 0 by decide))) rfl rfl rfl (by decide) (Nat.le_of_ble_eq_true rfl) ⟨rfl, rfl⟩ ⟨Nat.le_of_ble_eq_true rfl, Nat.le_of_ble_eq_true rfl⟩ (dk dd_L_aims_0 48 rfl) sk1 (sm_c set0 (sm_c set25 (sm_c set26 (sm_c set27 (sm_c set28 (sm_c set29 (sm_c set30 (sm_c set31 (sm_c set32 (sm_c set33 (sm_c set34 (sm_c set35 (sm_c set1 (sm_c set2 (sm_c set3 stl36))))))))))))))) ?_
            have hAI := it_AI (f := z0) (ini_AI (p := p) (s := (aimF (q - p) k)) (y := (((0, (fun _ => 0), (fun _ => 0), (fun _ => 0), (fun _ => 0), (fun _ => 0)), ear0 z0 12, 0, z0), (0, 0, z0), (0, z0), 0, z0)) hp (fun i => (show R64 0 by decide))) 600
            have hGp := fun ho => AI_gap hAI ho
            generalize itX 1000 0 0 z0 600 (ini0 p (aimF (q - p) k) 5000 (((0, (fun _ => 0), (fun _ => 0), (fun _ => 0), (fun _ => 0), (fun _ => 0)), ear0 z0 12, 0, z0), (0, 0, z0), (0, z0), 0, z0)) = Y at hAI hGp ⊢
            obtain ⟨⟨⟨m1, P1, S1, E1, T1, U1⟩, A1, ec1, Ec1⟩, ⟨h1, es1, N1⟩, ⟨c1, wd1⟩, pc1, Cn1⟩ := Y
            unfold AI at hAI
            dsimp only at hAI hGp ⊢
            obtain ⟨e1, -, -, -, -, e6, e7, e8, e9⟩ := hAI
            refine V_sipush h (dk dd_L_aims_0 49 rfl) (by decide) ?_
            refine V_icmp_ne (tgt := 119) h (dk dd_L_aims_1 0 rfl) rfl (by omega) (fun c94 => ?_) (fun c94 => ?_)
            · exfalso; omega
            · refine V_aload_n h (dk dd_L_aims_1 1 rfl) rfl get3 ?_
              refine V_iload_n h (dk dd_L_aims_1 2 rfl) rfl get2 ?_
              refine V_iconst h (dk dd_L_aims_1 3 rfl) ?_
              refine V_isub h (dk dd_L_aims_1 4 rfl) ?_
              refine V_iconst h (dk dd_L_aims_1 5 rfl) ?_
              refine V_callVc h st3 ci_L_47 (pk_c get0 (pk_c get25 (pk_c get27 (pk_c get28 (pk_c get29 pk_n))))) rfl 0 get0 (m_hit_in l G _ _ _ _ _ _ _ _ _ _ _ _ _ _ _ _ _ _ _ _ (by omega) (by omega) (by omega)) rfl rfl rfl (by decide) (Nat.le_of_ble_eq_true rfl) ⟨rfl, rfl⟩ ⟨Nat.le_of_ble_eq_true rfl, Nat.le_of_ble_eq_true rfl⟩ (dk dd_L_aims_1 6 rfl) sk1 (sm_c set0 (sm_c set25 (sm_c set27 (sm_c set28 (sm_c set29 sm_n))))) ?_
              rw [e7 (k - 1) (by omega) (by omega), to_there hq hw (by omega)]
              refine V_iload_n h (dk dd_L_aims_1 7 rfl) rfl get1 ?_
              refine V_i2l h (dk dd_L_aims_1 8 rfl) (by omega) ?_
              refine V_lcmp_ne (tgt := 119) h (dk dd_L_aims_1 9 rfl) (dk dd_L_aims_1 10 rfl) rfl (by omega) (fun c107 => ?_) (fun c107 => ?_)
              · exfalso; omega
              · refine V_aload_n h (dk dd_L_aims_1 11 rfl) rfl get3 ?_
                refine V_callVc h st1 ci_L_87 (pk_c get0 (pk_c get25 pk_n)) rfl 0 get0 (m_X11_rays l G _ _ _ _ _ _ _ _ _ _ _ ) rfl rfl rfl (by decide) (Nat.le_of_ble_eq_true rfl) ⟨rfl, rfl⟩ ⟨Nat.le_of_ble_eq_true rfl, Nat.le_of_ble_eq_true rfl⟩ (dk dd_L_aims_1 12 rfl) sk1 (sm_c set0 (sm_c set25 sm_n)) ?_
                refine V_iconst h (dk dd_L_aims_1 13 rfl) ?_
                refine V_icmp_eq (tgt := 121) h (dk dd_L_aims_1 14 rfl) rfl (by omega) (fun c116 => ?_) (fun c116 => ?_)
                · refine V_aload_n h (dk dd_L_aims_1 17 rfl) rfl get3 ?_
                  refine V_iload h (dk dd_L_aims_1 18 rfl) get4 ?_
                  refine V_callVc h st2 ci_L_69 pk_n rfl 0 get0 (m_order_in l G _ _ (hs)) rfl rfl rfl (by decide) (Nat.le_of_ble_eq_true rfl) ⟨rfl, rfl⟩ ⟨Nat.le_of_ble_eq_true rfl, Nat.le_of_ble_eq_true rfl⟩ (dk dd_L_aims_1 19 rfl) sk1 sm_n ?_
                  rw [show 27720 / gcdF (aimF (q - p) k) = ordF (aimF (q - p) k) from rfl]
                  refine V_istore h (dk dd_L_aims_1 20 rfl) (Nat.le_of_ble_eq_true rfl) rfl set5 ?_
                  refine V_aload_n h (dk dd_L_aims_1 21 rfl) rfl get3 ?_
                  refine V_callVc h st1 ci_L_97 (pk_c get0 (pk_c get25 (pk_c get30 (pk_c get31 pk_n)))) rfl 0 get0 (m_X11_coverage l G _ _ _ _ _ _ _ _ _ _ _ _ _ _ ) rfl rfl rfl (by decide) (Nat.le_of_ble_eq_true rfl) ⟨rfl, rfl⟩ ⟨Nat.le_of_ble_eq_true rfl, Nat.le_of_ble_eq_true rfl⟩ (dk dd_L_aims_1 22 rfl) sk1 (sm_c set0 (sm_c set25 (sm_c set30 (sm_c set31 sm_n)))) ?_
                  refine V_iload h (dk dd_L_aims_1 23 rfl) get5 ?_
                  refine V_sipush h (dk dd_L_aims_1 24 rfl) (by decide) ?_
                  refine V_icmp_ge (tgt := 146) h (dk dd_L_aims_1 25 rfl) rfl (by omega) (fun c138 => ?_) (fun c138 => ?_)
                  · refine V_sipush h (dk dd_L_aims_1 28 rfl) (by decide) ?_
                    refine V_icmp_ne (tgt := 202) h (dk dd_L_aims_1 29 rfl) rfl (by omega) (fun c149 => ?_) (fun c149 => ?_)
                    · exfalso; omega
                    · refine V_iload h (dk dd_L_aims_1 30 rfl) get5 ?_
                      refine V_sipush h (dk dd_L_aims_1 31 rfl) (by decide) ?_
                      refine V_icmp_gt (tgt := 175) h (dk dd_L_aims_1 32 rfl) rfl (by omega) (fun c157 => ?_) (fun c157 => ?_)
                      · refine V_iload h (dk dd_L_aims_1 41 rfl) get5 ?_
                        refine V_sipush h (dk dd_L_aims_1 42 rfl) (by decide) ?_
                        refine V_icmp_gt (tgt := 198) h (dk dd_L_aims_1 43 rfl) rfl (by omega) (fun c180 => ?_) (fun c180 => ?_)
                        · refine V_iconst h (dk dd_L_aims_2 4 rfl) ?_
                          refine V_goto (tgt := 203) h (dk dd_L_aims_2 5 rfl) rfl ?_
                          refine V_perm (is := []) pk_n rfl ?_
                          refine V_zret h hF (dk dd_L_aims_2 7 rfl) ⟨Nat.le_of_ble_eq_true rfl, Nat.le_of_ble_eq_true rfl⟩ (by first | exact Or.inr rfl | exact Or.inl rfl | exact bZ_01 | omega) ?_
                          exact det_i rfl rfl
                        · refine V_aload_n h (dk dd_L_aims_1 44 rfl) rfl get3 ?_
                          refine V_iload h (dk dd_L_aims_1 45 rfl) get5 ?_
                          refine V_iconst h (dk dd_L_aims_1 46 rfl) ?_
                          refine V_isub h (dk dd_L_aims_1 47 rfl) ?_
                          refine V_iconst h (dk dd_L_aims_1 48 rfl) ?_
                          refine V_callVc h st3 ci_L_47 (pk_c get0 (pk_c get25 (pk_c get27 (pk_c get28 (pk_c get29 pk_n))))) rfl 0 get0 (m_hit_in l G _ _ _ _ _ _ _ _ _ _ _ _ _ _ _ _ _ _ _ _ (by omega) (by omega) (by omega)) rfl rfl rfl (by decide) (Nat.le_of_ble_eq_true rfl) ⟨rfl, rfl⟩ ⟨Nat.le_of_ble_eq_true rfl, Nat.le_of_ble_eq_true rfl⟩ (dk dd_L_aims_1 49 rfl) sk1 (sm_c set0 (sm_c set25 (sm_c set27 (sm_c set28 (sm_c set29 sm_n))))) ?_
                          rw [e7 (ordF (aimF (q - p) k) - 1) (by omega) (by omega), back_here hp (by omega)]
                          refine V_iload_n h (dk dd_L_aims_2 0 rfl) rfl get0 ?_
                          refine V_i2l h (dk dd_L_aims_2 1 rfl) (by omega) ?_
                          refine V_lcmp_ne (tgt := 202) h (dk dd_L_aims_2 2 rfl) (dk dd_L_aims_2 3 rfl) rfl (by omega) (fun c194 => ?_) (fun c194 => ?_)
                          · exfalso; omega
                          · refine V_iconst h (dk dd_L_aims_2 4 rfl) ?_
                            refine V_goto (tgt := 203) h (dk dd_L_aims_2 5 rfl) rfl ?_
                            refine V_perm (is := []) pk_n rfl ?_
                            refine V_zret h hF (dk dd_L_aims_2 7 rfl) ⟨Nat.le_of_ble_eq_true rfl, Nat.le_of_ble_eq_true rfl⟩ (by first | exact Or.inr rfl | exact Or.inl rfl | exact bZ_01 | omega) ?_
                            exact det_i rfl rfl
                      · refine V_aload_n h (dk dd_L_aims_1 33 rfl) rfl get3 ?_
                        refine V_callVc h st1 ci_L_100 (pk_c get0 (pk_c get25 (pk_c get30 (pk_c get31 pk_n)))) rfl 0 get0 (m_X11_gap l G _ _ _ _ _ _ _ _ _ _ _ _ _ _ (by omega) (e8.2.2)) rfl rfl rfl (by decide) (Nat.le_of_ble_eq_true rfl) ⟨rfl, rfl⟩ ⟨Nat.le_of_ble_eq_true rfl, Nat.le_of_ble_eq_true rfl⟩ (dk dd_L_aims_1 34 rfl) sk1 (sm_c set0 (sm_c set25 (sm_c set30 (sm_c set31 sm_n)))) ?_
                        rw [hGp (by omega)]
                        refine V_sipush h (dk dd_L_aims_1 35 rfl) (by decide) ?_
                        refine V_iload h (dk dd_L_aims_1 36 rfl) get5 ?_
                        refine V_idivP h (dk dd_L_aims_1 37 rfl) (by omega) ?_
                        refine V_iconst h (dk dd_L_aims_1 38 rfl) ?_
                        refine V_isub h (dk dd_L_aims_1 39 rfl) ?_
                        refine V_icmp_ne (tgt := 202) h (dk dd_L_aims_1 40 rfl) rfl (by omega) (fun c172 => ?_) (fun c172 => ?_)
                        · exfalso; omega
                        · refine V_iload h (dk dd_L_aims_1 41 rfl) get5 ?_
                          refine V_sipush h (dk dd_L_aims_1 42 rfl) (by decide) ?_
                          refine V_icmp_gt (tgt := 198) h (dk dd_L_aims_1 43 rfl) rfl (by omega) (fun c180_2 => ?_) (fun c180_2 => ?_)
                          · refine V_iconst h (dk dd_L_aims_2 4 rfl) ?_
                            refine V_goto (tgt := 203) h (dk dd_L_aims_2 5 rfl) rfl ?_
                            refine V_perm (is := []) pk_n rfl ?_
                            refine V_zret h hF (dk dd_L_aims_2 7 rfl) ⟨Nat.le_of_ble_eq_true rfl, Nat.le_of_ble_eq_true rfl⟩ (by first | exact Or.inr rfl | exact Or.inl rfl | exact bZ_01 | omega) ?_
                            exact det_i rfl rfl
                          · refine V_aload_n h (dk dd_L_aims_1 44 rfl) rfl get3 ?_
                            refine V_iload h (dk dd_L_aims_1 45 rfl) get5 ?_
                            refine V_iconst h (dk dd_L_aims_1 46 rfl) ?_
                            refine V_isub h (dk dd_L_aims_1 47 rfl) ?_
                            refine V_iconst h (dk dd_L_aims_1 48 rfl) ?_
                            refine V_callVc h st3 ci_L_47 (pk_c get0 (pk_c get25 (pk_c get27 (pk_c get28 (pk_c get29 pk_n))))) rfl 0 get0 (m_hit_in l G _ _ _ _ _ _ _ _ _ _ _ _ _ _ _ _ _ _ _ _ (by omega) (by omega) (by omega)) rfl rfl rfl (by decide) (Nat.le_of_ble_eq_true rfl) ⟨rfl, rfl⟩ ⟨Nat.le_of_ble_eq_true rfl, Nat.le_of_ble_eq_true rfl⟩ (dk dd_L_aims_1 49 rfl) sk1 (sm_c set0 (sm_c set25 (sm_c set27 (sm_c set28 (sm_c set29 sm_n))))) ?_
                            rw [e7 (ordF (aimF (q - p) k) - 1) (by omega) (by omega), back_here hp (by omega)]
                            refine V_iload_n h (dk dd_L_aims_2 0 rfl) rfl get0 ?_
                            refine V_i2l h (dk dd_L_aims_2 1 rfl) (by omega) ?_
                            refine V_lcmp_ne (tgt := 202) h (dk dd_L_aims_2 2 rfl) (dk dd_L_aims_2 3 rfl) rfl (by omega) (fun c194_2 => ?_) (fun c194_2 => ?_)
                            · exfalso; omega
                            · refine V_iconst h (dk dd_L_aims_2 4 rfl) ?_
                              refine V_goto (tgt := 203) h (dk dd_L_aims_2 5 rfl) rfl ?_
                              refine V_perm (is := []) pk_n rfl ?_
                              refine V_zret h hF (dk dd_L_aims_2 7 rfl) ⟨Nat.le_of_ble_eq_true rfl, Nat.le_of_ble_eq_true rfl⟩ (by first | exact Or.inr rfl | exact Or.inl rfl | exact bZ_01 | omega) ?_
                              exact det_i rfl rfl
                  · refine V_iload h (dk dd_L_aims_1 26 rfl) get5 ?_
                    refine V_goto (tgt := 149) h (dk dd_L_aims_1 27 rfl) rfl ?_
                    refine V_icmp_ne (tgt := 202) h (dk dd_L_aims_1 29 rfl) rfl (by omega) (fun c149_2 => ?_) (fun c149_2 => ?_)
                    · exfalso; omega
                    · refine V_iload h (dk dd_L_aims_1 30 rfl) get5 ?_
                      refine V_sipush h (dk dd_L_aims_1 31 rfl) (by decide) ?_
                      refine V_icmp_gt (tgt := 175) h (dk dd_L_aims_1 32 rfl) rfl (by omega) (fun c157_2 => ?_) (fun c157_2 => ?_)
                      · refine V_iload h (dk dd_L_aims_1 41 rfl) get5 ?_
                        refine V_sipush h (dk dd_L_aims_1 42 rfl) (by decide) ?_
                        refine V_icmp_gt (tgt := 198) h (dk dd_L_aims_1 43 rfl) rfl (by omega) (fun c180_3 => ?_) (fun c180_3 => ?_)
                        · refine V_iconst h (dk dd_L_aims_2 4 rfl) ?_
                          refine V_goto (tgt := 203) h (dk dd_L_aims_2 5 rfl) rfl ?_
                          refine V_perm (is := []) pk_n rfl ?_
                          refine V_zret h hF (dk dd_L_aims_2 7 rfl) ⟨Nat.le_of_ble_eq_true rfl, Nat.le_of_ble_eq_true rfl⟩ (by first | exact Or.inr rfl | exact Or.inl rfl | exact bZ_01 | omega) ?_
                          exact det_i rfl rfl
                        · refine V_aload_n h (dk dd_L_aims_1 44 rfl) rfl get3 ?_
                          refine V_iload h (dk dd_L_aims_1 45 rfl) get5 ?_
                          refine V_iconst h (dk dd_L_aims_1 46 rfl) ?_
                          refine V_isub h (dk dd_L_aims_1 47 rfl) ?_
                          refine V_iconst h (dk dd_L_aims_1 48 rfl) ?_
                          refine V_callVc h st3 ci_L_47 (pk_c get0 (pk_c get25 (pk_c get27 (pk_c get28 (pk_c get29 pk_n))))) rfl 0 get0 (m_hit_in l G _ _ _ _ _ _ _ _ _ _ _ _ _ _ _ _ _ _ _ _ (by omega) (by omega) (by omega)) rfl rfl rfl (by decide) (Nat.le_of_ble_eq_true rfl) ⟨rfl, rfl⟩ ⟨Nat.le_of_ble_eq_true rfl, Nat.le_of_ble_eq_true rfl⟩ (dk dd_L_aims_1 49 rfl) sk1 (sm_c set0 (sm_c set25 (sm_c set27 (sm_c set28 (sm_c set29 sm_n))))) ?_
                          rw [e7 (ordF (aimF (q - p) k) - 1) (by omega) (by omega), back_here hp (by omega)]
                          refine V_iload_n h (dk dd_L_aims_2 0 rfl) rfl get0 ?_
                          refine V_i2l h (dk dd_L_aims_2 1 rfl) (by omega) ?_
                          refine V_lcmp_ne (tgt := 202) h (dk dd_L_aims_2 2 rfl) (dk dd_L_aims_2 3 rfl) rfl (by omega) (fun c194_3 => ?_) (fun c194_3 => ?_)
                          · exfalso; omega
                          · refine V_iconst h (dk dd_L_aims_2 4 rfl) ?_
                            refine V_goto (tgt := 203) h (dk dd_L_aims_2 5 rfl) rfl ?_
                            refine V_perm (is := []) pk_n rfl ?_
                            refine V_zret h hF (dk dd_L_aims_2 7 rfl) ⟨Nat.le_of_ble_eq_true rfl, Nat.le_of_ble_eq_true rfl⟩ (by first | exact Or.inr rfl | exact Or.inl rfl | exact bZ_01 | omega) ?_
                            exact det_i rfl rfl
                      · refine V_aload_n h (dk dd_L_aims_1 33 rfl) rfl get3 ?_
                        refine V_callVc h st1 ci_L_100 (pk_c get0 (pk_c get25 (pk_c get30 (pk_c get31 pk_n)))) rfl 0 get0 (m_X11_gap l G _ _ _ _ _ _ _ _ _ _ _ _ _ _ (by omega) (e8.2.2)) rfl rfl rfl (by decide) (Nat.le_of_ble_eq_true rfl) ⟨rfl, rfl⟩ ⟨Nat.le_of_ble_eq_true rfl, Nat.le_of_ble_eq_true rfl⟩ (dk dd_L_aims_1 34 rfl) sk1 (sm_c set0 (sm_c set25 (sm_c set30 (sm_c set31 sm_n)))) ?_
                        rw [hGp (by omega)]
                        refine V_sipush h (dk dd_L_aims_1 35 rfl) (by decide) ?_
                        refine V_iload h (dk dd_L_aims_1 36 rfl) get5 ?_
                        refine V_idivP h (dk dd_L_aims_1 37 rfl) (by omega) ?_
                        refine V_iconst h (dk dd_L_aims_1 38 rfl) ?_
                        refine V_isub h (dk dd_L_aims_1 39 rfl) ?_
                        refine V_icmp_ne (tgt := 202) h (dk dd_L_aims_1 40 rfl) rfl (by omega) (fun c172_2 => ?_) (fun c172_2 => ?_)
                        · exfalso; omega
                        · refine V_iload h (dk dd_L_aims_1 41 rfl) get5 ?_
                          refine V_sipush h (dk dd_L_aims_1 42 rfl) (by decide) ?_
                          refine V_icmp_gt (tgt := 198) h (dk dd_L_aims_1 43 rfl) rfl (by omega) (fun c180_4 => ?_) (fun c180_4 => ?_)
                          · refine V_iconst h (dk dd_L_aims_2 4 rfl) ?_
                            refine V_goto (tgt := 203) h (dk dd_L_aims_2 5 rfl) rfl ?_
                            refine V_perm (is := []) pk_n rfl ?_
                            refine V_zret h hF (dk dd_L_aims_2 7 rfl) ⟨Nat.le_of_ble_eq_true rfl, Nat.le_of_ble_eq_true rfl⟩ (by first | exact Or.inr rfl | exact Or.inl rfl | exact bZ_01 | omega) ?_
                            exact det_i rfl rfl
                          · refine V_aload_n h (dk dd_L_aims_1 44 rfl) rfl get3 ?_
                            refine V_iload h (dk dd_L_aims_1 45 rfl) get5 ?_
                            refine V_iconst h (dk dd_L_aims_1 46 rfl) ?_
                            refine V_isub h (dk dd_L_aims_1 47 rfl) ?_
                            refine V_iconst h (dk dd_L_aims_1 48 rfl) ?_
                            refine V_callVc h st3 ci_L_47 (pk_c get0 (pk_c get25 (pk_c get27 (pk_c get28 (pk_c get29 pk_n))))) rfl 0 get0 (m_hit_in l G _ _ _ _ _ _ _ _ _ _ _ _ _ _ _ _ _ _ _ _ (by omega) (by omega) (by omega)) rfl rfl rfl (by decide) (Nat.le_of_ble_eq_true rfl) ⟨rfl, rfl⟩ ⟨Nat.le_of_ble_eq_true rfl, Nat.le_of_ble_eq_true rfl⟩ (dk dd_L_aims_1 49 rfl) sk1 (sm_c set0 (sm_c set25 (sm_c set27 (sm_c set28 (sm_c set29 sm_n))))) ?_
                            rw [e7 (ordF (aimF (q - p) k) - 1) (by omega) (by omega), back_here hp (by omega)]
                            refine V_iload_n h (dk dd_L_aims_2 0 rfl) rfl get0 ?_
                            refine V_i2l h (dk dd_L_aims_2 1 rfl) (by omega) ?_
                            refine V_lcmp_ne (tgt := 202) h (dk dd_L_aims_2 2 rfl) (dk dd_L_aims_2 3 rfl) rfl (by omega) (fun c194_4 => ?_) (fun c194_4 => ?_)
                            · exfalso; omega
                            · refine V_iconst h (dk dd_L_aims_2 4 rfl) ?_
                              refine V_goto (tgt := 203) h (dk dd_L_aims_2 5 rfl) rfl ?_
                              refine V_perm (is := []) pk_n rfl ?_
                              refine V_zret h hF (dk dd_L_aims_2 7 rfl) ⟨Nat.le_of_ble_eq_true rfl, Nat.le_of_ble_eq_true rfl⟩ (by first | exact Or.inr rfl | exact Or.inl rfl | exact bZ_01 | omega) ?_
                              exact det_i rfl rfl
                · exfalso; omega
      · exfalso; omega
  refine V_permT (pre := [(n0, .inr (10, [.ref (q4 0), .ref (q4 1), .ref (q4 2), .ref (q4 3)])), ((q4 0), .inr (9, [.ref (q4 4), .int (iZ 10), .int (iZ 1000)])), ((q4 4), .inr (3, [.ref (q4 5), .int (iZ 0)])), ((q4 5), .inl (G.2 0, 48, .inl (iF z0))), ((q4 1), .inr (1, [.ref (q4 6), .int (iZ 0)])), ((q4 6), .inl (G.2 5, 5, .inr (.inr (.inr (.inr (arr5 (fun i => ([(q4 7), (q4 10), (q4 13), (q4 16), (q4 19)] : List Nat).getD i 0))))))), ((q4 7), .inr (9, [.ref (q4 8), .int (iZ 10), .int (iZ 1000)])), ((q4 8), .inr (3, [.ref (q4 9), .int (iZ 0)])), ((q4 9), .inl (G.2 0, 48, .inl (iF z0))), ((q4 10), .inr (9, [.ref (q4 11), .int (iZ 10), .int (iZ 1000)])), ((q4 11), .inr (3, [.ref (q4 12), .int (iZ 0)])), ((q4 12), .inl (G.2 0, 48, .inl (iF z0))), ((q4 13), .inr (9, [.ref (q4 14), .int (iZ 10), .int (iZ 1000)])), ((q4 14), .inr (3, [.ref (q4 15), .int (iZ 0)])), ((q4 15), .inl (G.2 0, 48, .inl (iF z0))), ((q4 16), .inr (9, [.ref (q4 17), .int (iZ 10), .int (iZ 1000)])), ((q4 17), .inr (3, [.ref (q4 18), .int (iZ 0)])), ((q4 18), .inl (G.2 0, 48, .inl (iF z0))), ((q4 19), .inr (9, [.ref (q4 20), .int (iZ 10), .int (iZ 1000)])), ((q4 20), .inr (3, [.ref (q4 21), .int (iZ 0)])), ((q4 21), .inl (G.2 0, 48, .inl (iF z0))), ((q4 2), .inr (8, [.ref (q4 22), .ref (q4 23), .int (iZ 0), .int (iZ 0), .int (iZ 0), .int (iZ 0)])), ((q4 22), .inl (G.2 3, 60, .inl (iF z0))), ((q4 23), .inr (3, [.ref (q4 24), .int (iZ 0)])), ((q4 24), .inl (G.2 0, 48, .inl (iF z0))), ((q4 3), .inr (7, [.ref (q4 25), .ref (q4 26), .ref (q4 29), .ref (q4 31), .ref (q4 33), .int (iZ 0)])), ((q4 25), .inl (G.2 4, 100, .inr (.inr (.inr (.inr (rayA (fun j : Int => q4 (100 + j.toNat)))))))), ((q4 26), .inr (2, [.ref (q4 27), .ref (q4 28), .int (iZ 0), .int (iZ 0), .long (lZ 0)])), ((q4 27), .inl (G.2 1, 3000, .inr (.inl (lF z0)))), ((q4 28), .inl (G.2 0, 600, .inl (iF z0))), ((q4 29), .inr (5, [.ref (q4 30), .int (iZ 0)])), ((q4 30), .inl (G.2 1, 434, .inr (.inl (lF z0)))), ((q4 31), .inr (0, [.ref (q4 32)])), ((q4 32), .inl (G.2 1, 48, .inr (.inl (lF (ear0 z0 12))))), ((q4 33), .inr (4, [.ref (q4 34), .int (iZ 0)])), ((q4 34), .inl (G.2 0, 201, .inl (iF z0)))]) (is := [0, 1, 2, 3, 4, 5, 6, 7, 8, 9, 10, 11, 12, 13, 14, 15, 16, 17, 18, 19, 20, 21, 22, 23, 24, 25, 26, 27, 28, 29, 30, 31, 32, 33, 34, 35]) (pk_c get0 (pk_c get1 (pk_c get2 (pk_c get3 (pk_c get4 (pk_c get5 (pk_c get6 (pk_c get7 (pk_c get8 (pk_c get9 (pk_c get10 (pk_c get11 (pk_c get12 (pk_c get13 (pk_c get14 (pk_c get15 (pk_c get16 (pk_c get17 (pk_c get18 (pk_c get19 (pk_c get20 (pk_c get21 (pk_c get22 (pk_c get23 (pk_c get24 (pk_c get25 (pk_c get26 (pk_c get27 (pk_c get28 (pk_c get29 (pk_c get30 (pk_c get31 (pk_c get32 (pk_c get33 (pk_c get34 (pk_c get35 pk_n)))))))))))))))))))))))))))))))))))) rfl ?_
  simp only [List.cons_append, List.nil_append]
  refine V_astore_n h (dk dd_L_aims_0 3 rfl) rfl (Nat.le_of_ble_eq_true rfl) rfl set3 ?_
  exact J8 n0 (q4 0) (q4 1) (q4 2) (q4 3) (q4 4) (q4 5) (q4 6) (q4 22) (q4 23) (q4 24) (q4 25) (q4 26) (q4 29) (q4 31) (q4 33) (q4 27) (q4 28) (q4 32) (q4 30) (q4 34) (fun j : Int => q4 (100 + j.toNat)) (fun i => ([q4 7, q4 10, q4 13, q4 16, q4 19] : List Nat).getD i 0) (fun i => ([q4 8, q4 11, q4 14, q4 17, q4 20] : List Nat).getD i 0) (fun i => ([q4 9, q4 12, q4 15, q4 18, q4 21] : List Nat).getD i 0) (fun _ => 0) (fun _ => 10) (fun _ => 1000) (fun _ => z0) trivial

