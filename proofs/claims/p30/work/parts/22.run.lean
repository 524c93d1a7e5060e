/-! Shot.run -/
set_option maxHeartbeats 4000000 in
set_option maxRecDepth 100000 in
theorem m_X8_run (l : Launch) (G : GT) (sh rr lo mk ea pt : Nat) (ra : Int → Nat) (m : Int) (P S E T U : Int → Int) (w pw aw : Nat) (n lo2 z : Int) (f : Int → Int) (lb lc : Nat) (nh ec es : Int) (Nn Ec : Int → Int) (eb : Nat) (A : Int → Int) (mb pb : Nat) (c pc : Int) (wd Cn : Int → Int) (p s e : Int) (hW : WallOK n lo2 z f) (hp : 0 ≤ p ∧ p < 27720) (hs : s ≠ 0 ∧ -13859 ≤ s ∧ s ≤ 13859) (he : 1 ≤ e ∧ e ≤ 1000000) (hw : ∀ i, R64 (wd i)) : Ctr l G yX8_run cX8_run 7 none (rmO 5 0 0 122) [.ref sh, .ref w, .int (iZ p), .int (iZ s), .int (iZ e)] ((sh, .inr (7, [.ref rr, .ref lo, .ref mk, .ref ea, .ref pt, .int (iZ m)])) :: (rr, .inl (G.2 4, 100, .inr (.inr (.inr (.inr (rayA ra)))))) :: (lo, .inr (2, [.ref lb, .ref lc, .int (iZ nh), .int (iZ ec), .long (lZ es)])) :: (lb, .inl (G.2 1, 3000, .inr (.inl (lF Nn)))) :: (lc, .inl (G.2 0, 600, .inl (iF Ec))) :: (mk, .inr (5, [.ref mb, .int (iZ c)])) :: (mb, .inl (G.2 1, 434, .inr (.inl (lF wd)))) :: (ea, .inr (0, [.ref eb])) :: (eb, .inl (G.2 1, 48, .inr (.inl (lF A)))) :: (pt, .inr (4, [.ref pb, .int (iZ pc)])) :: (pb, .inl (G.2 0, 201, .inl (iF Cn))) :: (w, .inr (9, [.ref pw, .int (iZ lo2), .int (iZ z)])) :: (pw, .inr (3, [.ref aw, .int (iZ n)])) :: (aw, .inl (G.2 0, 48, .inl (iF f))) :: raysW ra P S E T U) (Det none ((sh, .inr (7, [.ref rr, .ref lo, .ref mk, .ref ea, .ref pt, .int (iZ (itX z lo2 n f 600 (ini0 p s e (((m, P, S, E, T, U), A, ec, Ec), (nh, es, Nn), (c, wd), pc, Cn))).1.1.1)])) :: (rr, .inl (G.2 4, 100, .inr (.inr (.inr (.inr (rayA ra)))))) :: (lo, .inr (2, [.ref lb, .ref lc, .int (iZ (itX z lo2 n f 600 (ini0 p s e (((m, P, S, E, T, U), A, ec, Ec), (nh, es, Nn), (c, wd), pc, Cn))).2.1.1), .int (iZ (itX z lo2 n f 600 (ini0 p s e (((m, P, S, E, T, U), A, ec, Ec), (nh, es, Nn), (c, wd), pc, Cn))).1.2.2.1), .long (lZ (itX z lo2 n f 600 (ini0 p s e (((m, P, S, E, T, U), A, ec, Ec), (nh, es, Nn), (c, wd), pc, Cn))).2.1.2.1)])) :: (lb, .inl (G.2 1, 3000, .inr (.inl (lF (itX z lo2 n f 600 (ini0 p s e (((m, P, S, E, T, U), A, ec, Ec), (nh, es, Nn), (c, wd), pc, Cn))).2.1.2.2)))) :: (lc, .inl (G.2 0, 600, .inl (iF (itX z lo2 n f 600 (ini0 p s e (((m, P, S, E, T, U), A, ec, Ec), (nh, es, Nn), (c, wd), pc, Cn))).1.2.2.2))) :: (mk, .inr (5, [.ref mb, .int (iZ (itX z lo2 n f 600 (ini0 p s e (((m, P, S, E, T, U), A, ec, Ec), (nh, es, Nn), (c, wd), pc, Cn))).2.2.1.1)])) :: (mb, .inl (G.2 1, 434, .inr (.inl (lF (itX z lo2 n f 600 (ini0 p s e (((m, P, S, E, T, U), A, ec, Ec), (nh, es, Nn), (c, wd), pc, Cn))).2.2.1.2)))) :: (ea, .inr (0, [.ref eb])) :: (eb, .inl (G.2 1, 48, .inr (.inl (lF (itX z lo2 n f 600 (ini0 p s e (((m, P, S, E, T, U), A, ec, Ec), (nh, es, Nn), (c, wd), pc, Cn))).1.2.1)))) :: (pt, .inr (4, [.ref pb, .int (iZ (itX z lo2 n f 600 (ini0 p s e (((m, P, S, E, T, U), A, ec, Ec), (nh, es, Nn), (c, wd), pc, Cn))).2.2.2.1)])) :: (pb, .inl (G.2 0, 201, .inl (iF (itX z lo2 n f 600 (ini0 p s e (((m, P, S, E, T, U), A, ec, Ec), (nh, es, Nn), (c, wd), pc, Cn))).2.2.2.2))) :: (w, .inr (9, [.ref pw, .int (iZ lo2), .int (iZ z)])) :: (pw, .inr (3, [.ref aw, .int (iZ n)])) :: (aw, .inl (G.2 0, 48, .inl (iF f))) :: raysW ra (itX z lo2 n f 600 (ini0 p s e (((m, P, S, E, T, U), A, ec, Ec), (nh, es, Nn), (c, wd), pc, Cn))).1.1.2.1 (itX z lo2 n f 600 (ini0 p s e (((m, P, S, E, T, U), A, ec, Ec), (nh, es, Nn), (c, wd), pc, Cn))).1.1.2.2.1 (itX z lo2 n f 600 (ini0 p s e (((m, P, S, E, T, U), A, ec, Ec), (nh, es, Nn), (c, wd), pc, Cn))).1.1.2.2.2.1 (itX z lo2 n f 600 (ini0 p s e (((m, P, S, E, T, U), A, ec, Ec), (nh, es, Nn), (c, wd), pc, Cn))).1.1.2.2.2.2.1 (itX z lo2 n f 600 (ini0 p s e (((m, P, S, E, T, U), A, ec, Ec), (nh, es, Nn), (c, wd), pc, Cn))).1.1.2.2.2.2.2)) := by
  refine Ctr.go (own := RX8) (nm := "run") (by decide +kernel) rfl rfl [some (.ref sh), some (.ref w), some (.int (iZ p)), some (.int (iZ s)), some (.int (iZ e)), none, none] 2 rfl rfl (Nat.le_of_ble_eq_true rfl) ?_
  intro K h hF
  have hc := chord_R hs.2
  have hF0 : FI 0 (ini0 p s e (((m, P, S, E, T, U), A, ec, Ec), (nh, es, Nn), (c, wd), pc, Cn)) := ini_I hp hs he hw
  refine V_aload_n h (dk dd_X8_run_0 0 rfl) rfl get0 ?_
  refine V_get h fl_X8_20 0 get0 get1 (dk dd_X8_run_0 1 rfl) ?_
  refine V_callV h st1 ci_X8_48 (pk_c get2 (pk_c get3 (pk_c get4 pk_n))) rfl 2 get2 rfl (m_X3_forget l G _ _ _ _ _ _ _ _ ) rfl rfl (Nat.le_of_ble_eq_true rfl) (by decide) ⟨rfl, rfl, rfl⟩ (dk dd_X8_run_0 2 rfl) sk0 (sm_c set2 (sm_c set3 (sm_c set4 sm_n))) ?_
  refine V_aload_n h (dk dd_X8_run_0 3 rfl) rfl get0 ?_
  refine V_get h fl_X8_27 0 get0 get2 (dk dd_X8_run_0 4 rfl) ?_
  refine V_callV h st1 ci_X8_51 (pk_c get5 (pk_c get6 pk_n)) rfl 5 get5 rfl (m_X6_forget l G _ _ _ _ ) rfl rfl (Nat.le_of_ble_eq_true rfl) (by decide) ⟨rfl, rfl, rfl⟩ (dk dd_X8_run_0 5 rfl) sk0 (sm_c set5 (sm_c set6 sm_n)) ?_
  refine V_aload_n h (dk dd_X8_run_0 6 rfl) rfl get0 ?_
  refine V_get h fl_X8_34 0 get0 get3 (dk dd_X8_run_0 7 rfl) ?_
  refine V_callV h st1 ci_X8_52 (pk_c get7 (pk_c get8 pk_n)) rfl 7 get7 rfl (m_X1_forget l G _ _ _ ) rfl rfl (Nat.le_of_ble_eq_true rfl) (by decide) ⟨rfl, rfl, rfl⟩ (dk dd_X8_run_0 8 rfl) sk0 (sm_c set7 (sm_c set8 sm_n)) ?_
  refine V_aload_n h (dk dd_X8_run_0 9 rfl) rfl get0 ?_
  refine V_get h fl_X8_41 0 get0 get4 (dk dd_X8_run_0 10 rfl) ?_
  refine V_iload_n h (dk dd_X8_run_0 11 rfl) rfl get2 ?_
  refine V_callV h st2 ci_X8_53 (pk_c get9 (pk_c get10 pk_n)) rfl 9 get9 rfl (m_X5_startAt l G _ _ _ _ _ ) rfl rfl (Nat.le_of_ble_eq_true rfl) (by decide) ⟨rfl, rfl, rfl⟩ (dk dd_X8_run_0 12 rfl) sk0 (sm_c set9 (sm_c set10 sm_n)) ?_
  refine V_aload_n h (dk dd_X8_run_0 13 rfl) rfl get0 ?_
  refine V_iconst h (dk dd_X8_run_0 14 rfl) ?_
  refine V_put h pf_X8_56 0 get0 (Nat.le_of_ble_eq_true rfl) set5 set0 rfl rfl (dk dd_X8_run_0 15 rfl) ?_
  refine V_aload_n h (dk dd_X8_run_0 16 rfl) rfl get0 ?_
  refine V_iload_n h (dk dd_X8_run_0 17 rfl) rfl get2 ?_
  refine V_iload_n h (dk dd_X8_run_0 18 rfl) rfl get3 ?_
  refine V_iload h (dk dd_X8_run_0 19 rfl) get4 ?_
  refine V_iload_n h (dk dd_X8_run_0 20 rfl) rfl get3 ?_
  refine V_callS h st1 ci_X8_60 pk_n rfl (m_X0_chordTime l G _ (by omega)) rfl rfl (Nat.le_of_ble_eq_true rfl) (by decide) ⟨rfl, rfl, rfl⟩ (dk dd_X8_run_0 21 rfl) sk1 sm_n ?_
  refine V_i2l h (dk dd_X8_run_0 22 rfl) (by omega) ?_
  refine V_callV h st5 ci_X8_66 (pk_c get0 (pk_c get1 pt14)) (by decide +kernel) 0 get0 rfl (m_X8_begin l G _ _ _ _ _ _ _ _ _ _ _ _ _ _ _ _ _ (by omega)) rfl rfl (Nat.le_of_ble_eq_true rfl) (by decide) ⟨rfl, rfl, rfl⟩ (dk dd_X8_run_0 23 rfl) sk0 (sm_c set0 (sm_c set1 stl14)) ?_
  refine V_iconst h (dk dd_X8_run_0 24 rfl) ?_
  refine V_istore h (dk dd_X8_run_0 25 rfl) (Nat.le_of_ble_eq_true rfl) rfl set5 ?_
  have L50 : ∀ (fu : Nat) (i : Int) (m1 : Int) (P1 S1 E1 T1 U1 A1 : Int → Int) (ec1 : Int) (Ec1 : Int → Int) (h1 es1 : Int) (N1 : Int → Int) (c1 : Int) (wd1 : Int → Int) (pc1 : Int) (Cn1 : Int → Int), 0 ≤ i ∧ i ≤ 600 ∧ (((m1, P1, S1, E1, T1, U1), A1, ec1, Ec1), (h1, es1, N1), (c1, wd1), pc1, Cn1) = itX z lo2 n f i.toNat (ini0 p s e (((m, P, S, E, T, U), A, ec, Ec), (nh, es, Nn), (c, wd), pc, Cn)) ∧ FI i (((m1, P1, S1, E1, T1, U1), A1, ec1, Ec1), (h1, es1, N1), (c1, wd1), pc1, Cn1) → (600 - i).toNat < fu → V K (0, 0) 50 [some (.ref sh), some (.ref w), some (.int (iZ p)), some (.int (iZ s)), some (.int (iZ e)), some (.int (iZ i)), none] [] ((sh, .inr (7, [.ref rr, .ref lo, .ref mk, .ref ea, .ref pt, .int (iZ m1)])) :: (rr, .inl (G.2 4, 100, .inr (.inr (.inr (.inr (rayA ra)))))) :: (lo, .inr (2, [.ref lb, .ref lc, .int (iZ h1), .int (iZ ec1), .long (lZ es1)])) :: (lb, .inl (G.2 1, 3000, .inr (.inl (lF N1)))) :: (lc, .inl (G.2 0, 600, .inl (iF Ec1))) :: (mk, .inr (5, [.ref mb, .int (iZ c1)])) :: (mb, .inl (G.2 1, 434, .inr (.inl (lF wd1)))) :: (ea, .inr (0, [.ref eb])) :: (eb, .inl (G.2 1, 48, .inr (.inl (lF A1)))) :: (pt, .inr (4, [.ref pb, .int (iZ pc1)])) :: (pb, .inl (G.2 0, 201, .inl (iF Cn1))) :: (w, .inr (9, [.ref pw, .int (iZ lo2), .int (iZ z)])) :: (pw, .inr (3, [.ref aw, .int (iZ n)])) :: (aw, .inl (G.2 0, 48, .inl (iF f))) :: raysW ra P1 S1 E1 T1 U1) := by
    intro fu
    induction fu with
    | zero => intro i m1 P1 S1 E1 T1 U1 A1 ec1 Ec1 h1 es1 N1 c1 wd1 pc1 Cn1 _ hm; exact absurd hm (Nat.not_lt_zero _)
    | succ fu ih50 =>
      intro i m1 P1 S1 E1 T1 U1 A1 ec1 Ec1 h1 es1 N1 c1 wd1 pc1 Cn1 hI50 hm50
      obtain ⟨hi0, hi1, hx, hI⟩ := hI50
      have hI9 := hI
      obtain ⟨j1, j2, j3, j4, j5, j6, j7, j8⟩ := hI9
      dsimp only at j1 j2 j3 j4 j5 j6 j7 j8
      have k1 := j1.1
      have k2 := j1.2.1
      dsimp only at k1 k2
      have hR := erl_R T1 U1 m1.toNat
      refine V_iload h (dk dd_X8_run_0 26 rfl) get5 ?_
      refine V_sipush h (dk dd_X8_run_0 27 rfl) (by decide) ?_
      refine V_icmp_ge (tgt := 83) h (dk dd_X8_run_0 28 rfl) rfl (by omega) (fun c55 => ?_) (fun c55 => ?_)
      · refine V_vret h hF (dk dd_X8_run_0 41 rfl) ⟨Nat.le_of_ble_eq_true rfl, Nat.le_of_ble_eq_true rfl⟩ ?_
        have e : i.toNat = 600 := by omega
        rw [e] at hx
        exact det_v (by rw [← hx])
      · refine V_aload_n h (dk dd_X8_run_0 29 rfl) rfl get0 ?_
        refine V_callV h st1 ci_X8_70 (pk_c get0 (pk_c get1 pt14)) (by decide +kernel) 0 get0 rfl (m_X8_earliest l G _ _ _ _ _ _ _ _ _ _ _ _ _ (by omega) (fun j a b => (j1.2.2 j a b).2.2.2.2) (fun j a b => by have := (j1.2.2 j a b).2.2.2.1; dsimp only at this; exact ⟨by omega, by omega⟩)) rfl rfl (Nat.le_of_ble_eq_true rfl) (by decide) ⟨rfl, rfl, rfl⟩ (dk dd_X8_run_0 30 rfl) sk1 (sm_c set0 (sm_c set1 stl14)) ?_
        by_cases hbn : erlF T1 U1 m1.toNat = -1
        · rw [refO_n hbn]
          refine V_astoreN h (dk dd_X8_run_0 31 rfl) (Nat.le_of_ble_eq_true rfl) rfl set6 ?_
          refine V_aloadN h (dk dd_X8_run_0 32 rfl) get6 ?_
          refine V_ifnonnullN h (dk dd_X8_run_0 33 rfl) ?_
          refine V_vret h hF (dk dd_X8_run_0 34 rfl) ⟨Nat.le_of_ble_eq_true rfl, Nat.le_of_ble_eq_true rfl⟩ ?_
          exact det_v (by have e := it_dead (thr := z) (lo := lo2) (n := n) (f := f) (y := (ini0 p s e (((m, P, S, E, T, U), A, ec, Ec), (nh, es, Nn), (c, wd), pc, Cn))) (k := i.toNat) (by rw [← hx]; exact hbn) (600 - i.toNat); rw [show i.toNat + (600 - i.toNat) = 600 by omega] at e; rw [e, ← hx])
        · rw [refO_r hbn]
          refine V_astore h (dk dd_X8_run_0 31 rfl) (Nat.le_of_ble_eq_true rfl) rfl set6 ?_
          refine V_aload h (dk dd_X8_run_0 32 rfl) get6 ?_
          refine V_ifnonnull (tgt := 70) h (dk dd_X8_run_0 33 rfl) rfl ?_
          refine V_aload_n h (dk dd_X8_run_0 35 rfl) rfl get0 ?_
          refine V_aload_n h (dk dd_X8_run_0 36 rfl) rfl get1 ?_
          refine V_aload h (dk dd_X8_run_0 37 rfl) get6 ?_
          refine V_callV h st3 ci_X8_74 (pk_c get0 (pk_c get1 (pk_c get2 (pk_c get3 (pk_c get4 (pk_c get5 (pk_c get6 (pk_c get7 (pk_c get8 (pk_c get9 (pk_c get10 (pk_c get11 (pk_c get12 (pk_c get13 pt14)))))))))))))) (by decide +kernel) 0 get0 rfl (m_X8_meet l G _ _ _ _ _ _ _ _ _ _ _ _ _ _ _ _ _ _ _ _ _ _ _ _ _ _ _ _ _ _ _ _ _ _ _ _ _ _ (j1) (by omega) (by omega) (j2) (by omega) (hW.1) (hW.2.1) (⟨by have := hW.2.2.1; omega, by have := hW.2.2.1; omega⟩) (hW.2.2.2) (by omega) (by omega)) rfl rfl (Nat.le_of_ble_eq_true rfl) (by decide) ⟨rfl, rfl, rfl⟩ (dk dd_X8_run_0 38 rfl) sk0 (sm_c set0 (sm_c set1 (sm_c set2 (sm_c set3 (sm_c set4 (sm_c set5 (sm_c set6 (sm_c set7 (sm_c set8 (sm_c set9 (sm_c set10 (sm_c set11 (sm_c set12 (sm_c set13 stl14)))))))))))))) ?_
          refine V_iinc h (dk dd_X8_run_0 39 rfl) get5 (Nat.le_of_ble_eq_true rfl) rfl set5 ?_
          refine V_goto (tgt := 50) h (dk dd_X8_run_0 40 rfl) rfl ?_
          refine V_wk (lw_s (lw_s (lw_s (lw_s (lw_s (lw_s (lw_o lw_n))))))) ?_
          exact ih50 _ _ _ _ _ _ _ _ _ _ _ _ _ _ _ _ _ ⟨by omega, by omega, by rw [it_s hi0, ← hx]; exact (if_neg (c := nxtX (((m1, P1, S1, E1, T1, U1), A1, ec1, Ec1), (h1, es1, N1), (c1, wd1), pc1, Cn1) = -1) hbn).symm, go_I hW hI ⟨hi0, by omega⟩ (show 0 ≤ erlF T1 U1 m1.toNat ∧ erlF T1 U1 m1.toNat < m1 by omega)⟩ (by omega)
  exact L50 _ 0 _ _ _ _ _ _ _ _ _ _ _ _ _ _ _ _ ⟨by omega, by omega, rfl, hF0⟩ (Nat.lt_succ_self _)

