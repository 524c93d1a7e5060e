/-! GalleryRays: read, shots, chords, undo -/
set_option maxHeartbeats 4000000 in
set_option maxRecDepth 100000 in
theorem m_shoot_bad (l : Launch) (G : GT) (x w hi tx sh : Nat) (p s e : Int) (hp : R32 p) (hs : R32 s) (he : R32 e) (hA : ¬ ((0 ≤ p ∧ p < 27720) ∧ (s ≠ 0 ∧ -13859 ≤ s ∧ s ≤ 13859) ∧ 1 ≤ e ∧ e ≤ 1000000)) : Ctr l G yX11_shoot cX11_shoot 4 (Option.some FieldType.int) (rmO 6 0 0 148) [.ref x, .int (iZ p), .int (iZ s), .int (iZ e)] [] (Det (some (.int (iZ (-100001)))) []) := by
  refine Ctr.go (own := RX11) (nm := "shoot") (by decide +kernel) rfl rfl [some (.ref x), some (.int (iZ p)), some (.int (iZ s)), some (.int (iZ e))] 0 rfl rfl (Nat.le_of_ble_eq_true rfl) ?_
  intro K h hF
  refine V_iload_n h (dk dd_X11_shoot_0 0 rfl) rfl get1 ?_
  refine V_callS h st1 ci_X11_97 pk_n rfl (m_X0_isPlace l G _ (by omega)) rfl rfl (Nat.le_of_ble_eq_true rfl) (by decide) ⟨rfl, rfl, rfl⟩ (dk dd_X11_shoot_0 1 rfl) sk1 sm_n ?_
  refine V_ifz_eq (tgt := 25) h (dk dd_X11_shoot_0 2 rfl) rfl (fun c4 => ?_) (fun c4 => ?_)
  · refine V_ldc h q2_32 (dk dd_X11_shoot_0 12 rfl) ?_
    refine V_iret h hF (dk dd_X11_shoot_0 13 rfl) ⟨Nat.le_of_ble_eq_true rfl, Nat.le_of_ble_eq_true rfl⟩ ?_
    exact det_i (by first | rfl | omega) rfl
  · refine V_iload_n h (dk dd_X11_shoot_0 3 rfl) rfl get2 ?_
    refine V_callS h st1 ci_X11_102 pk_n rfl (m_X0_isStep l G _ (by omega)) rfl rfl (Nat.le_of_ble_eq_true rfl) (by decide) ⟨rfl, rfl, rfl⟩ (dk dd_X11_shoot_0 4 rfl) sk1 sm_n ?_
    refine V_ifz_eq (tgt := 25) h (dk dd_X11_shoot_0 5 rfl) rfl (fun c11 => ?_) (fun c11 => ?_)
    · refine V_ldc h q2_32 (dk dd_X11_shoot_0 12 rfl) ?_
      refine V_iret h hF (dk dd_X11_shoot_0 13 rfl) ⟨Nat.le_of_ble_eq_true rfl, Nat.le_of_ble_eq_true rfl⟩ ?_
      exact det_i (by first | rfl | omega) rfl
    · refine V_iload_n h (dk dd_X11_shoot_0 6 rfl) rfl get3 ?_
      refine V_iconst h (dk dd_X11_shoot_0 7 rfl) ?_
      refine V_icmp_lt (tgt := 25) h (dk dd_X11_shoot_0 8 rfl) rfl (by omega) (fun c16 => ?_) (fun c16 => ?_)
      · refine V_ldc h q2_32 (dk dd_X11_shoot_0 12 rfl) ?_
        refine V_iret h hF (dk dd_X11_shoot_0 13 rfl) ⟨Nat.le_of_ble_eq_true rfl, Nat.le_of_ble_eq_true rfl⟩ ?_
        exact det_i (by first | rfl | omega) rfl
      · refine V_iload_n h (dk dd_X11_shoot_0 9 rfl) rfl get3 ?_
        refine V_ldc h q2_69 (dk dd_X11_shoot_0 10 rfl) ?_
        refine V_icmp_le (tgt := 28) h (dk dd_X11_shoot_0 11 rfl) rfl (by omega) (fun c22 => ?_) (fun c22 => ?_)
        · exact absurd ⟨c4, c11, by omega, by omega⟩ hA
        · refine V_ldc h q2_32 (dk dd_X11_shoot_0 12 rfl) ?_
          refine V_iret h hF (dk dd_X11_shoot_0 13 rfl) ⟨Nat.le_of_ble_eq_true rfl, Nat.le_of_ble_eq_true rfl⟩ ?_
          exact det_i (by first | rfl | omega) rfl

set_option maxHeartbeats 4000000 in
set_option maxRecDepth 100000 in
theorem m_shoot_ok (l : Launch) (G : GT) (x w hi tx sh : Nat) (pw aw : Nat) (n lo2 z : Int) (f : Int → Int) (rr lo mk ea pt : Nat) (ra : Int → Nat) (m : Int) (P S E T2 U : Int → Int) (lb lc : Nat) (nh ec es : Int) (Nn Ec : Int → Int) (eb : Nat) (A : Int → Int) (mb pb : Nat) (cm pc : Int) (wd Cn : Int → Int) (p s e : Int) (hp : R32 p) (hs : R32 s) (he : R32 e) (hA : (0 ≤ p ∧ p < 27720) ∧ (s ≠ 0 ∧ -13859 ≤ s ∧ s ≤ 13859) ∧ 1 ≤ e ∧ e ≤ 1000000) (hW : WallOK n lo2 z f) (hw : ∀ i, R64 (wd i)) : Ctr l G yX11_shoot cX11_shoot 4 (Option.some FieldType.int) (rmO 6 0 0 148) [.ref x, .int (iZ p), .int (iZ s), .int (iZ e)] ((x, .inr (10, [.ref w, .ref hi, .ref tx, .ref sh])) :: (sh, .inr (7, [.ref rr, .ref lo, .ref mk, .ref ea, .ref pt, .int (iZ m)])) :: (rr, .inl (G.2 4, 100, .inr (.inr (.inr (.inr (rayA ra)))))) :: (lo, .inr (2, [.ref lb, .ref lc, .int (iZ nh), .int (iZ ec), .long (lZ es)])) :: (lb, .inl (G.2 1, 3000, .inr (.inl (lF Nn)))) :: (lc, .inl (G.2 0, 600, .inl (iF Ec))) :: (mk, .inr (5, [.ref mb, .int (iZ cm)])) :: (mb, .inl (G.2 1, 434, .inr (.inl (lF wd)))) :: (ea, .inr (0, [.ref eb])) :: (eb, .inl (G.2 1, 48, .inr (.inl (lF A)))) :: (pt, .inr (4, [.ref pb, .int (iZ pc)])) :: (pb, .inl (G.2 0, 201, .inl (iF Cn))) :: (w, .inr (9, [.ref pw, .int (iZ lo2), .int (iZ z)])) :: (pw, .inr (3, [.ref aw, .int (iZ n)])) :: (aw, .inl (G.2 0, 48, .inl (iF f))) :: raysW ra P S E T2 U) (Det (some (.int (iZ (itX z lo2 n f 600 (ini0 p s e (((m, P, S, E, T2, U), A, ec, Ec), (nh, es, Nn), (cm, wd), pc, Cn))).2.1.1))) ((x, .inr (10, [.ref w, .ref hi, .ref tx, .ref sh])) :: (sh, .inr (7, [.ref rr, .ref lo, .ref mk, .ref ea, .ref pt, .int (iZ (itX z lo2 n f 600 (ini0 p s e (((m, P, S, E, T2, U), A, ec, Ec), (nh, es, Nn), (cm, wd), pc, Cn))).1.1.1)])) :: (rr, .inl (G.2 4, 100, .inr (.inr (.inr (.inr (rayA ra)))))) :: (lo, .inr (2, [.ref lb, .ref lc, .int (iZ (itX z lo2 n f 600 (ini0 p s e (((m, P, S, E, T2, U), A, ec, Ec), (nh, es, Nn), (cm, wd), pc, Cn))).2.1.1), .int (iZ (itX z lo2 n f 600 (ini0 p s e (((m, P, S, E, T2, U), A, ec, Ec), (nh, es, Nn), (cm, wd), pc, Cn))).1.2.2.1), .long (lZ (itX z lo2 n f 600 (ini0 p s e (((m, P, S, E, T2, U), A, ec, Ec), (nh, es, Nn), (cm, wd), pc, Cn))).2.1.2.1)])) :: (lb, .inl (G.2 1, 3000, .inr (.inl (lF (itX z lo2 n f 600 (ini0 p s e (((m, P, S, E, T2, U), A, ec, Ec), (nh, es, Nn), (cm, wd), pc, Cn))).2.1.2.2)))) :: (lc, .inl (G.2 0, 600, .inl (iF (itX z lo2 n f 600 (ini0 p s e (((m, P, S, E, T2, U), A, ec, Ec), (nh, es, Nn), (cm, wd), pc, Cn))).1.2.2.2))) :: (mk, .inr (5, [.ref mb, .int (iZ (itX z lo2 n f 600 (ini0 p s e (((m, P, S, E, T2, U), A, ec, Ec), (nh, es, Nn), (cm, wd), pc, Cn))).2.2.1.1)])) :: (mb, .inl (G.2 1, 434, .inr (.inl (lF (itX z lo2 n f 600 (ini0 p s e (((m, P, S, E, T2, U), A, ec, Ec), (nh, es, Nn), (cm, wd), pc, Cn))).2.2.1.2)))) :: (ea, .inr (0, [.ref eb])) :: (eb, .inl (G.2 1, 48, .inr (.inl (lF (itX z lo2 n f 600 (ini0 p s e (((m, P, S, E, T2, U), A, ec, Ec), (nh, es, Nn), (cm, wd), pc, Cn))).1.2.1)))) :: (pt, .inr (4, [.ref pb, .int (iZ (itX z lo2 n f 600 (ini0 p s e (((m, P, S, E, T2, U), A, ec, Ec), (nh, es, Nn), (cm, wd), pc, Cn))).2.2.2.1)])) :: (pb, .inl (G.2 0, 201, .inl (iF (itX z lo2 n f 600 (ini0 p s e (((m, P, S, E, T2, U), A, ec, Ec), (nh, es, Nn), (cm, wd), pc, Cn))).2.2.2.2))) :: (w, .inr (9, [.ref pw, .int (iZ lo2), .int (iZ z)])) :: (pw, .inr (3, [.ref aw, .int (iZ n)])) :: (aw, .inl (G.2 0, 48, .inl (iF f))) :: raysW ra (itX z lo2 n f 600 (ini0 p s e (((m, P, S, E, T2, U), A, ec, Ec), (nh, es, Nn), (cm, wd), pc, Cn))).1.1.2.1 (itX z lo2 n f 600 (ini0 p s e (((m, P, S, E, T2, U), A, ec, Ec), (nh, es, Nn), (cm, wd), pc, Cn))).1.1.2.2.1 (itX z lo2 n f 600 (ini0 p s e (((m, P, S, E, T2, U), A, ec, Ec), (nh, es, Nn), (cm, wd), pc, Cn))).1.1.2.2.2.1 (itX z lo2 n f 600 (ini0 p s e (((m, P, S, E, T2, U), A, ec, Ec), (nh, es, Nn), (cm, wd), pc, Cn))).1.1.2.2.2.2.1 (itX z lo2 n f 600 (ini0 p s e (((m, P, S, E, T2, U), A, ec, Ec), (nh, es, Nn), (cm, wd), pc, Cn))).1.1.2.2.2.2.2)) := by
  refine Ctr.go (own := RX11) (nm := "shoot") (by decide +kernel) rfl rfl [some (.ref x), some (.int (iZ p)), some (.int (iZ s)), some (.int (iZ e))] 0 rfl rfl (Nat.le_of_ble_eq_true rfl) ?_
  intro K h hF
  refine V_iload_n h (dk dd_X11_shoot_0 0 rfl) rfl get1 ?_
  refine V_callS h st1 ci_X11_97 pk_n rfl (m_X0_isPlace l G _ (by omega)) rfl rfl (Nat.le_of_ble_eq_true rfl) (by decide) ⟨rfl, rfl, rfl⟩ (dk dd_X11_shoot_0 1 rfl) sk1 sm_n ?_
  refine V_ifz_eq (tgt := 25) h (dk dd_X11_shoot_0 2 rfl) rfl (fun c4 => ?_) (fun c4 => ?_)
  · exact absurd hA.1 c4
  · refine V_iload_n h (dk dd_X11_shoot_0 3 rfl) rfl get2 ?_
    refine V_callS h st1 ci_X11_102 pk_n rfl (m_X0_isStep l G _ (by omega)) rfl rfl (Nat.le_of_ble_eq_true rfl) (by decide) ⟨rfl, rfl, rfl⟩ (dk dd_X11_shoot_0 4 rfl) sk1 sm_n ?_
    refine V_ifz_eq (tgt := 25) h (dk dd_X11_shoot_0 5 rfl) rfl (fun c11 => ?_) (fun c11 => ?_)
    · exact absurd hA.2.1 c11
    · refine V_iload_n h (dk dd_X11_shoot_0 6 rfl) rfl get3 ?_
      refine V_iconst h (dk dd_X11_shoot_0 7 rfl) ?_
      refine V_icmp_lt (tgt := 25) h (dk dd_X11_shoot_0 8 rfl) rfl (by omega) (fun c16 => ?_) (fun c16 => ?_)
      · exfalso; omega
      · refine V_iload_n h (dk dd_X11_shoot_0 9 rfl) rfl get3 ?_
        refine V_ldc h q2_69 (dk dd_X11_shoot_0 10 rfl) ?_
        refine V_icmp_le (tgt := 28) h (dk dd_X11_shoot_0 11 rfl) rfl (by omega) (fun c22 => ?_) (fun c22 => ?_)
        · refine V_aload_n h (dk dd_X11_shoot_0 14 rfl) rfl get0 ?_
          refine V_get h fl_X11_33 0 get0 get3 (dk dd_X11_shoot_0 15 rfl) ?_
          refine V_aload_n h (dk dd_X11_shoot_0 16 rfl) rfl get0 ?_
          refine V_get h fl_X11_10 0 get0 get0 (dk dd_X11_shoot_0 17 rfl) ?_
          refine V_iload_n h (dk dd_X11_shoot_0 18 rfl) rfl get1 ?_
          refine V_iload_n h (dk dd_X11_shoot_0 19 rfl) rfl get2 ?_
          refine V_iload_n h (dk dd_X11_shoot_0 20 rfl) rfl get3 ?_
          refine V_callV h st5 ci_X11_105 (pk_c get1 (pk_c get2 (pk_c get3 (pk_c get4 (pk_c get5 (pk_c get6 (pk_c get7 (pk_c get8 (pk_c get9 (pk_c get10 (pk_c get11 (pk_c get12 (pk_c get13 (pk_c get14 pt15)))))))))))))) (by decide +kernel) 1 get1 rfl (m_X8_run l G _ _ _ _ _ _ _ _ _ _ _ _ _ _ _ _ _ _ _ _ _ _ _ _ _ _ _ _ _ _ _ _ _ _ _ _ _ _ (hW) (hA.1) (hA.2.1) (hA.2.2) (hw)) rfl rfl (Nat.le_of_ble_eq_true rfl) (by decide) ⟨rfl, rfl, rfl⟩ (dk dd_X11_shoot_0 21 rfl) sk0 (sm_c set1 (sm_c set2 (sm_c set3 (sm_c set4 (sm_c set5 (sm_c set6 (sm_c set7 (sm_c set8 (sm_c set9 (sm_c set10 (sm_c set11 (sm_c set12 (sm_c set13 (sm_c set14 stl15)))))))))))))) ?_
          refine V_aload_n h (dk dd_X11_shoot_0 22 rfl) rfl get0 ?_
          refine V_get h fl_X11_33 0 get0 get3 (dk dd_X11_shoot_0 23 rfl) ?_
          refine V_get h fl_X11_109 1 get1 get1 (dk dd_X11_shoot_0 24 rfl) ?_
          refine V_get h fl_X11_113 3 get3 get2 (dk dd_X11_shoot_0 25 rfl) ?_
          refine V_iret h hF (dk dd_X11_shoot_0 26 rfl) ⟨Nat.le_of_ble_eq_true rfl, Nat.le_of_ble_eq_true rfl⟩ ?_
          exact det_i (by first | rfl | omega) rfl
        · exfalso; omega

set_option maxHeartbeats 4000000 in
set_option maxRecDepth 100000 in
theorem m_X11_hits (l : Launch) (G : GT) (x w hi tx sh : Nat) (rr lo mk ea pt : Nat) (m : Int) (lb lc : Nat) (nh ec es : Int) (Nn Ec : Int → Int)  : Ctr l G yX11_hits cX11_hits 1 (Option.some FieldType.int) (rmO 0 0 0 0) [.ref x] [(x, .inr (10, [.ref w, .ref hi, .ref tx, .ref sh])), (sh, .inr (7, [.ref rr, .ref lo, .ref mk, .ref ea, .ref pt, .int (iZ m)])), (lo, .inr (2, [.ref lb, .ref lc, .int (iZ nh), .int (iZ ec), .long (lZ es)])), (lb, .inl (G.2 1, 3000, .inr (.inl (lF Nn)))), (lc, .inl (G.2 0, 600, .inl (iF Ec)))] (Det (some (.int (iZ nh))) [(x, .inr (10, [.ref w, .ref hi, .ref tx, .ref sh])), (sh, .inr (7, [.ref rr, .ref lo, .ref mk, .ref ea, .ref pt, .int (iZ m)])), (lo, .inr (2, [.ref lb, .ref lc, .int (iZ nh), .int (iZ ec), .long (lZ es)])), (lb, .inl (G.2 1, 3000, .inr (.inl (lF Nn)))), (lc, .inl (G.2 0, 600, .inl (iF Ec)))]) := by
  refine Ctr.go (own := RX11) (nm := "hits") (by decide +kernel) rfl rfl [some (.ref x)] 0 rfl rfl (Nat.le_of_ble_eq_true rfl) ?_
  intro K h hF
  refine V_aload_n h (dk dd_X11_hits_0 0 rfl) rfl get0 ?_
  refine V_get h fl_X11_33 0 get0 get3 (dk dd_X11_hits_0 1 rfl) ?_
  refine V_get h fl_X11_109 1 get1 get1 (dk dd_X11_hits_0 2 rfl) ?_
  refine V_get h fl_X11_113 2 get2 get2 (dk dd_X11_hits_0 3 rfl) ?_
  refine V_iret h hF (dk dd_X11_hits_0 4 rfl) ⟨Nat.le_of_ble_eq_true rfl, Nat.le_of_ble_eq_true rfl⟩ ?_
  exact det_i (by first | rfl | omega) rfl

set_option maxHeartbeats 4000000 in
set_option maxRecDepth 100000 in
theorem m_X11_hit (l : Launch) (G : GT) (x w hi tx sh : Nat) (rr lo mk ea pt : Nat) (m : Int) (lb lc : Nat) (nh ec es : Int) (Nn Ec : Int → Int) (i j : Int) (hh : 0 ≤ nh ∧ nh ≤ 600) (hi2 : R32 i) (hj : R32 j) : Ctr l G yX11_hit cX11_hit 3 (Option.some FieldType.long) (rmO 1 0 0 22) [.ref x, .int (iZ i), .int (iZ j)] [(x, .inr (10, [.ref w, .ref hi, .ref tx, .ref sh])), (sh, .inr (7, [.ref rr, .ref lo, .ref mk, .ref ea, .ref pt, .int (iZ m)])), (lo, .inr (2, [.ref lb, .ref lc, .int (iZ nh), .int (iZ ec), .long (lZ es)])), (lb, .inl (G.2 1, 3000, .inr (.inl (lF Nn)))), (lc, .inl (G.2 0, 600, .inl (iF Ec)))] (Det (some (.long (lZ (numL nh Nn i j)))) [(x, .inr (10, [.ref w, .ref hi, .ref tx, .ref sh])), (sh, .inr (7, [.ref rr, .ref lo, .ref mk, .ref ea, .ref pt, .int (iZ m)])), (lo, .inr (2, [.ref lb, .ref lc, .int (iZ nh), .int (iZ ec), .long (lZ es)])), (lb, .inl (G.2 1, 3000, .inr (.inl (lF Nn)))), (lc, .inl (G.2 0, 600, .inl (iF Ec)))]) := by
  refine Ctr.go (own := RX11) (nm := "hit") (by decide +kernel) rfl rfl [some (.ref x), some (.int (iZ i)), some (.int (iZ j))] 0 rfl rfl (Nat.le_of_ble_eq_true rfl) ?_
  intro K h hF
  refine V_aload_n h (dk dd_X11_hit_0 0 rfl) rfl get0 ?_
  refine V_get h fl_X11_33 0 get0 get3 (dk dd_X11_hit_0 1 rfl) ?_
  refine V_get h fl_X11_109 1 get1 get1 (dk dd_X11_hit_0 2 rfl) ?_
  refine V_iload_n h (dk dd_X11_hit_0 3 rfl) rfl get1 ?_
  refine V_iload_n h (dk dd_X11_hit_0 4 rfl) rfl get2 ?_
  refine V_callV h st3 ci_X11_116 (pk_c get2 (pk_c get3 (pk_c get4 pk_n))) rfl 2 get2 rfl (m_X3_numberOf l G _ _ _ _ _ _ _ _ _ _ (by omega) (by omega) (by omega)) rfl rfl (Nat.le_of_ble_eq_true rfl) (by decide) ⟨rfl, rfl, rfl⟩ (dk dd_X11_hit_0 5 rfl) sk1 (sm_c set2 (sm_c set3 (sm_c set4 sm_n))) ?_
  refine V_lret h hF (dk dd_X11_hit_0 6 rfl) ⟨Nat.le_of_ble_eq_true rfl, Nat.le_of_ble_eq_true rfl⟩ ?_
  exact det_l (by first | rfl | omega) rfl

set_option maxHeartbeats 4000000 in
set_option maxRecDepth 100000 in
theorem m_X11_echo (l : Launch) (G : GT) (x w hi tx sh : Nat) (rr lo mk ea pt : Nat) (m : Int) (lb lc : Nat) (nh ec es : Int) (Nn Ec : Int → Int) (i : Int) (hec : 0 ≤ ec ∧ ec ≤ 600) (hi2 : R32 i) : Ctr l G yX11_echo cX11_echo 2 (Option.some FieldType.int) (rmO 1 0 0 21) [.ref x, .int (iZ i)] [(x, .inr (10, [.ref w, .ref hi, .ref tx, .ref sh])), (sh, .inr (7, [.ref rr, .ref lo, .ref mk, .ref ea, .ref pt, .int (iZ m)])), (lo, .inr (2, [.ref lb, .ref lc, .int (iZ nh), .int (iZ ec), .long (lZ es)])), (lb, .inl (G.2 1, 3000, .inr (.inl (lF Nn)))), (lc, .inl (G.2 0, 600, .inl (iF Ec)))] (Det (some (.int (iZ (echoF ec Ec i)))) [(x, .inr (10, [.ref w, .ref hi, .ref tx, .ref sh])), (sh, .inr (7, [.ref rr, .ref lo, .ref mk, .ref ea, .ref pt, .int (iZ m)])), (lo, .inr (2, [.ref lb, .ref lc, .int (iZ nh), .int (iZ ec), .long (lZ es)])), (lb, .inl (G.2 1, 3000, .inr (.inl (lF Nn)))), (lc, .inl (G.2 0, 600, .inl (iF Ec)))]) := by
  refine Ctr.go (own := RX11) (nm := "echo") (by decide +kernel) rfl rfl [some (.ref x), some (.int (iZ i))] 0 rfl rfl (Nat.le_of_ble_eq_true rfl) ?_
  intro K h hF
  refine V_aload_n h (dk dd_X11_echo_0 0 rfl) rfl get0 ?_
  refine V_get h fl_X11_33 0 get0 get3 (dk dd_X11_echo_0 1 rfl) ?_
  refine V_get h fl_X11_109 1 get1 get1 (dk dd_X11_echo_0 2 rfl) ?_
  refine V_iload_n h (dk dd_X11_echo_0 3 rfl) rfl get1 ?_
  refine V_callV h st2 ci_X11_139 (pk_c get2 (pk_c get3 (pk_c get4 pk_n))) rfl 2 get2 rfl (m_X3_echoAt l G _ _ _ _ _ _ _ _ _ (by omega) (by omega)) rfl rfl (Nat.le_of_ble_eq_true rfl) (by decide) ⟨rfl, rfl, rfl⟩ (dk dd_X11_echo_0 4 rfl) sk1 (sm_c set2 (sm_c set3 (sm_c set4 sm_n))) ?_
  refine V_iret h hF (dk dd_X11_echo_0 5 rfl) ⟨Nat.le_of_ble_eq_true rfl, Nat.le_of_ble_eq_true rfl⟩ ?_
  exact det_i (by first | rfl | omega) rfl

set_option maxHeartbeats 4000000 in
set_option maxRecDepth 100000 in
theorem m_X11_rays (l : Launch) (G : GT) (x w hi tx sh : Nat) (rr lo mk ea pt : Nat) (m : Int)  : Ctr l G yX11_rays cX11_rays 1 (Option.some FieldType.int) (rmO 0 0 0 0) [.ref x] [(x, .inr (10, [.ref w, .ref hi, .ref tx, .ref sh])), (sh, .inr (7, [.ref rr, .ref lo, .ref mk, .ref ea, .ref pt, .int (iZ m)]))] (Det (some (.int (iZ m))) [(x, .inr (10, [.ref w, .ref hi, .ref tx, .ref sh])), (sh, .inr (7, [.ref rr, .ref lo, .ref mk, .ref ea, .ref pt, .int (iZ m)]))]) := by
  refine Ctr.go (own := RX11) (nm := "rays") (by decide +kernel) rfl rfl [some (.ref x)] 0 rfl rfl (Nat.le_of_ble_eq_true rfl) ?_
  intro K h hF
  refine V_aload_n h (dk dd_X11_rays_0 0 rfl) rfl get0 ?_
  refine V_get h fl_X11_33 0 get0 get3 (dk dd_X11_rays_0 1 rfl) ?_
  refine V_get h fl_X11_119 1 get1 get5 (dk dd_X11_rays_0 2 rfl) ?_
  refine V_iret h hF (dk dd_X11_rays_0 3 rfl) ⟨Nat.le_of_ble_eq_true rfl, Nat.le_of_ble_eq_true rfl⟩ ?_
  exact det_i (by first | rfl | omega) rfl

set_option maxHeartbeats 4000000 in
set_option maxRecDepth 100000 in
theorem m_X11_coverage (l : Launch) (G : GT) (x w hi tx sh : Nat) (rr lo mk ea pt : Nat) (m : Int) (mb : Nat) (cm : Int) (wd : Int → Int)  : Ctr l G yX11_coverage cX11_coverage 1 (Option.some FieldType.int) (rmO 0 0 0 0) [.ref x] [(x, .inr (10, [.ref w, .ref hi, .ref tx, .ref sh])), (sh, .inr (7, [.ref rr, .ref lo, .ref mk, .ref ea, .ref pt, .int (iZ m)])), (mk, .inr (5, [.ref mb, .int (iZ cm)])), (mb, .inl (G.2 1, 434, .inr (.inl (lF wd))))] (Det (some (.int (iZ cm))) [(x, .inr (10, [.ref w, .ref hi, .ref tx, .ref sh])), (sh, .inr (7, [.ref rr, .ref lo, .ref mk, .ref ea, .ref pt, .int (iZ m)])), (mk, .inr (5, [.ref mb, .int (iZ cm)])), (mb, .inl (G.2 1, 434, .inr (.inl (lF wd))))]) := by
  refine Ctr.go (own := RX11) (nm := "coverage") (by decide +kernel) rfl rfl [some (.ref x)] 0 rfl rfl (Nat.le_of_ble_eq_true rfl) ?_
  intro K h hF
  refine V_aload_n h (dk dd_X11_coverage_0 0 rfl) rfl get0 ?_
  refine V_get h fl_X11_33 0 get0 get3 (dk dd_X11_coverage_0 1 rfl) ?_
  refine V_get h fl_X11_122 1 get1 get2 (dk dd_X11_coverage_0 2 rfl) ?_
  refine V_get h fl_X11_126 2 get2 get1 (dk dd_X11_coverage_0 3 rfl) ?_
  refine V_iret h hF (dk dd_X11_coverage_0 4 rfl) ⟨Nat.le_of_ble_eq_true rfl, Nat.le_of_ble_eq_true rfl⟩ ?_
  exact det_i (by first | rfl | omega) rfl

set_option maxHeartbeats 4000000 in
set_option maxRecDepth 100000 in
theorem m_X11_gap (l : Launch) (G : GT) (x w hi tx sh : Nat) (rr lo mk ea pt : Nat) (m : Int) (mb : Nat) (cm : Int) (wd : Int → Int) (hc : 0 ≤ cm ∧ cm ≤ 27720) (hf : ∀ i, R64 (wd i)) : Ctr l G yX11_gap cX11_gap 1 (Option.some FieldType.int) (rmO 3 0 0 70) [.ref x] [(x, .inr (10, [.ref w, .ref hi, .ref tx, .ref sh])), (sh, .inr (7, [.ref rr, .ref lo, .ref mk, .ref ea, .ref pt, .int (iZ m)])), (mk, .inr (5, [.ref mb, .int (iZ cm)])), (mb, .inl (G.2 1, 434, .inr (.inl (lF wd))))] (Det (some (.int (iZ (gapC wd cm)))) [(x, .inr (10, [.ref w, .ref hi, .ref tx, .ref sh])), (sh, .inr (7, [.ref rr, .ref lo, .ref mk, .ref ea, .ref pt, .int (iZ m)])), (mk, .inr (5, [.ref mb, .int (iZ cm)])), (mb, .inl (G.2 1, 434, .inr (.inl (lF wd))))]) := by
  refine Ctr.go (own := RX11) (nm := "gap") (by decide +kernel) rfl rfl [some (.ref x)] 0 rfl rfl (Nat.le_of_ble_eq_true rfl) ?_
  intro K h hF
  refine V_aload_n h (dk dd_X11_gap_0 0 rfl) rfl get0 ?_
  refine V_get h fl_X11_33 0 get0 get3 (dk dd_X11_gap_0 1 rfl) ?_
  refine V_get h fl_X11_122 1 get1 get2 (dk dd_X11_gap_0 2 rfl) ?_
  refine V_callV h st1 ci_X11_129 (pk_c get2 (pk_c get3 pk_n)) rfl 2 get2 rfl (m_X6_longestGap l G _ _ _ _ (by omega) (hf)) rfl rfl (Nat.le_of_ble_eq_true rfl) (by decide) ⟨rfl, rfl, rfl⟩ (dk dd_X11_gap_0 3 rfl) sk1 (sm_c set2 (sm_c set3 sm_n)) ?_
  refine V_iret h hF (dk dd_X11_gap_0 4 rfl) ⟨Nat.le_of_ble_eq_true rfl, Nat.le_of_ble_eq_true rfl⟩ ?_
  exact det_i (by first | rfl | omega) rfl

set_option maxHeartbeats 4000000 in
set_option maxRecDepth 100000 in
theorem m_X11_heard (l : Launch) (G : GT) (x w hi tx sh : Nat) (rr lo mk ea pt : Nat) (m : Int) (eb : Nat) (A : Int → Int) (i j : Int) (hi2 : R32 i) (hj : R32 j) : Ctr l G yX11_heard cX11_heard 3 (Option.some FieldType.long) (rmO 1 0 0 22) [.ref x, .int (iZ i), .int (iZ j)] [(x, .inr (10, [.ref w, .ref hi, .ref tx, .ref sh])), (sh, .inr (7, [.ref rr, .ref lo, .ref mk, .ref ea, .ref pt, .int (iZ m)])), (ea, .inr (0, [.ref eb])), (eb, .inl (G.2 1, 48, .inr (.inl (lF A))))] (Det (some (.long (lZ (earL A i j)))) [(x, .inr (10, [.ref w, .ref hi, .ref tx, .ref sh])), (sh, .inr (7, [.ref rr, .ref lo, .ref mk, .ref ea, .ref pt, .int (iZ m)])), (ea, .inr (0, [.ref eb])), (eb, .inl (G.2 1, 48, .inr (.inl (lF A))))]) := by
  refine Ctr.go (own := RX11) (nm := "heard") (by decide +kernel) rfl rfl [some (.ref x), some (.int (iZ i)), some (.int (iZ j))] 0 rfl rfl (Nat.le_of_ble_eq_true rfl) ?_
  intro K h hF
  refine V_aload_n h (dk dd_X11_heard_0 0 rfl) rfl get0 ?_
  refine V_get h fl_X11_33 0 get0 get3 (dk dd_X11_heard_0 1 rfl) ?_
  refine V_get h fl_X11_132 1 get1 get3 (dk dd_X11_heard_0 2 rfl) ?_
  refine V_iload_n h (dk dd_X11_heard_0 3 rfl) rfl get1 ?_
  refine V_iload_n h (dk dd_X11_heard_0 4 rfl) rfl get2 ?_
  refine V_callV h st3 ci_X11_136 (pk_c get2 (pk_c get3 pk_n)) rfl 2 get2 rfl (m_X1_numberOf l G _ _ _ _ _ (by omega) (by omega)) rfl rfl (Nat.le_of_ble_eq_true rfl) (by decide) ⟨rfl, rfl, rfl⟩ (dk dd_X11_heard_0 5 rfl) sk1 (sm_c set2 (sm_c set3 sm_n)) ?_
  refine V_lret h hF (dk dd_X11_heard_0 6 rfl) ⟨Nat.le_of_ble_eq_true rfl, Nat.le_of_ble_eq_true rfl⟩ ?_
  exact det_l (by first | rfl | omega) rfl

set_option maxHeartbeats 4000000 in
set_option maxRecDepth 100000 in
theorem m_crossings_bad (l : Launch) (G : GT) (x w hi tx sh : Nat) (rr lo mk ea pt : Nat) (m : Int) (pb : Nat) (pc : Int) (Cn : Int → Int) (k : Int) (hk : R32 k) (hA : ¬ (0 ≤ k ∧ k ≤ 200)) : Ctr l G yX11_crossings cX11_crossings 2 (Option.some FieldType.int) (rmO 3 0 0 72) [.ref x, .int (iZ k)] [(x, .inr (10, [.ref w, .ref hi, .ref tx, .ref sh])), (sh, .inr (7, [.ref rr, .ref lo, .ref mk, .ref ea, .ref pt, .int (iZ m)])), (pt, .inr (4, [.ref pb, .int (iZ pc)])), (pb, .inl (G.2 0, 201, .inl (iF Cn)))] (Det (some (.int (iZ (-100001)))) [(x, .inr (10, [.ref w, .ref hi, .ref tx, .ref sh])), (sh, .inr (7, [.ref rr, .ref lo, .ref mk, .ref ea, .ref pt, .int (iZ m)])), (pt, .inr (4, [.ref pb, .int (iZ pc)])), (pb, .inl (G.2 0, 201, .inl (iF Cn)))]) := by
  refine Ctr.go (own := RX11) (nm := "crossings") (by decide +kernel) rfl rfl [some (.ref x), some (.int (iZ k))] 0 rfl rfl (Nat.le_of_ble_eq_true rfl) ?_
  intro K h hF
  refine V_iload_n h (dk dd_X11_crossings_0 0 rfl) rfl get1 ?_
  refine V_if_lt (tgt := 11) h (dk dd_X11_crossings_0 1 rfl) rfl (by omega) (fun c1 => ?_) (fun c1 => ?_)
  · refine V_ldc h q2_32 (dk dd_X11_crossings_0 5 rfl) ?_
    refine V_iret h hF (dk dd_X11_crossings_0 6 rfl) ⟨Nat.le_of_ble_eq_true rfl, Nat.le_of_ble_eq_true rfl⟩ ?_
    exact det_i (by first | rfl | omega) rfl
  · refine V_iload_n h (dk dd_X11_crossings_0 2 rfl) rfl get1 ?_
    refine V_sipush h (dk dd_X11_crossings_0 3 rfl) (by decide) ?_
    refine V_icmp_le (tgt := 14) h (dk dd_X11_crossings_0 4 rfl) rfl (by omega) (fun c8 => ?_) (fun c8 => ?_)
    · exfalso; omega
    · refine V_ldc h q2_32 (dk dd_X11_crossings_0 5 rfl) ?_
      refine V_iret h hF (dk dd_X11_crossings_0 6 rfl) ⟨Nat.le_of_ble_eq_true rfl, Nat.le_of_ble_eq_true rfl⟩ ?_
      exact det_i (by first | rfl | omega) rfl

set_option maxHeartbeats 4000000 in
set_option maxRecDepth 100000 in
theorem m_crossings_ok (l : Launch) (G : GT) (x w hi tx sh : Nat) (rr lo mk ea pt : Nat) (m : Int) (pb : Nat) (pc : Int) (Cn : Int → Int) (k : Int) (hA : 0 ≤ k ∧ k ≤ 200) (hc : 0 ≤ pc ∧ pc ≤ 201) (hC : ∀ j, 0 ≤ j → j < pc → R32 (Cn j)) : Ctr l G yX11_crossings cX11_crossings 2 (Option.some FieldType.int) (rmO 3 0 0 72) [.ref x, .int (iZ k)] [(x, .inr (10, [.ref w, .ref hi, .ref tx, .ref sh])), (sh, .inr (7, [.ref rr, .ref lo, .ref mk, .ref ea, .ref pt, .int (iZ m)])), (pt, .inr (4, [.ref pb, .int (iZ pc)])), (pb, .inl (G.2 0, 201, .inl (iF Cn)))] (Det (some (.int (iZ (pairsF Cn (min (k + 1) pc))))) [(x, .inr (10, [.ref w, .ref hi, .ref tx, .ref sh])), (sh, .inr (7, [.ref rr, .ref lo, .ref mk, .ref ea, .ref pt, .int (iZ m)])), (pt, .inr (4, [.ref pb, .int (iZ pc)])), (pb, .inl (G.2 0, 201, .inl (iF Cn)))]) := by
  refine Ctr.go (own := RX11) (nm := "crossings") (by decide +kernel) rfl rfl [some (.ref x), some (.int (iZ k))] 0 rfl rfl (Nat.le_of_ble_eq_true rfl) ?_
  intro K h hF
  refine V_iload_n h (dk dd_X11_crossings_0 0 rfl) rfl get1 ?_
  refine V_if_lt (tgt := 11) h (dk dd_X11_crossings_0 1 rfl) rfl (by omega) (fun c1 => ?_) (fun c1 => ?_)
  · exfalso; omega
  · refine V_iload_n h (dk dd_X11_crossings_0 2 rfl) rfl get1 ?_
    refine V_sipush h (dk dd_X11_crossings_0 3 rfl) (by decide) ?_
    refine V_icmp_le (tgt := 14) h (dk dd_X11_crossings_0 4 rfl) rfl (by omega) (fun c8 => ?_) (fun c8 => ?_)
    · refine V_aload_n h (dk dd_X11_crossings_0 7 rfl) rfl get0 ?_
      refine V_get h fl_X11_33 0 get0 get3 (dk dd_X11_crossings_0 8 rfl) ?_
      refine V_get h fl_X11_147 1 get1 get4 (dk dd_X11_crossings_0 9 rfl) ?_
      refine V_iload_n h (dk dd_X11_crossings_0 10 rfl) rfl get1 ?_
      refine V_callV h st2 ci_X11_151 (pk_c get2 (pk_c get3 pk_n)) rfl 2 get2 rfl (m_X5_crossingPairs l G _ _ _ _ _ (by omega) (by omega) (hC)) rfl rfl (Nat.le_of_ble_eq_true rfl) (by decide) ⟨rfl, rfl, rfl⟩ (dk dd_X11_crossings_0 11 rfl) sk1 (sm_c set2 (sm_c set3 sm_n)) ?_
      refine V_iret h hF (dk dd_X11_crossings_0 12 rfl) ⟨Nat.le_of_ble_eq_true rfl, Nat.le_of_ble_eq_true rfl⟩ ?_
      exact det_i (by first | rfl | omega) rfl
    · exfalso; omega

set_option maxHeartbeats 4000000 in
set_option maxRecDepth 100000 in
theorem m_X11_time (l : Launch) (G : GT) (x : Nat) (s : Int) (hs : R32 s) : Ctr l G yX11_time cX11_time 2 (Option.some FieldType.int) (rmO 2 0 0 43) [.ref x, .int (iZ s)] [] (Det (some (.int (iZ (if s ≠ 0 ∧ -13859 ≤ s ∧ s ≤ 13859 then chordF s else -100001)))) []) := by
  refine Ctr.go (own := RX11) (nm := "time") (by decide +kernel) rfl rfl [some (.ref x), some (.int (iZ s))] 0 rfl rfl (Nat.le_of_ble_eq_true rfl) ?_
  intro K h hF
  refine V_iload_n h (dk dd_X11_time_0 0 rfl) rfl get1 ?_
  refine V_callS h st1 ci_X11_102 pk_n rfl (m_X0_isStep l G _ (by omega)) rfl rfl (Nat.le_of_ble_eq_true rfl) (by decide) ⟨rfl, rfl, rfl⟩ (dk dd_X11_time_0 1 rfl) sk1 sm_n ?_
  refine V_ifz_eq (tgt := 14) h (dk dd_X11_time_0 2 rfl) rfl (fun c4 => ?_) (fun c4 => ?_)
  · refine V_ldc h q2_32 (dk dd_X11_time_0 6 rfl) ?_
    refine V_iret h hF (dk dd_X11_time_0 7 rfl) ⟨Nat.le_of_ble_eq_true rfl, Nat.le_of_ble_eq_true rfl⟩ ?_
    exact det_i (by first | rw [if_pos (by assumption)] | rw [if_neg (by assumption)]) rfl
  · refine V_iload_n h (dk dd_X11_time_0 3 rfl) rfl get1 ?_
    refine V_callS h st1 ci_X11_156 pk_n rfl (m_X0_chordTime l G _ (by omega)) rfl rfl (Nat.le_of_ble_eq_true rfl) (by decide) ⟨rfl, rfl, rfl⟩ (dk dd_X11_time_0 4 rfl) sk1 sm_n ?_
    refine V_goto (tgt := 16) h (dk dd_X11_time_0 5 rfl) rfl ?_
    refine V_iret h hF (dk dd_X11_time_0 7 rfl) ⟨Nat.le_of_ble_eq_true rfl, Nat.le_of_ble_eq_true rfl⟩ ?_
    exact det_i (by first | rw [if_pos (by assumption)] | rw [if_neg (by assumption)]) rfl

set_option maxHeartbeats 4000000 in
set_option maxRecDepth 100000 in
theorem m_X11_caustic (l : Launch) (G : GT) (x : Nat) (s : Int) (hs : R32 s) : Ctr l G yX11_caustic cX11_caustic 2 (Option.some FieldType.int) (rmO 2 0 0 43) [.ref x, .int (iZ s)] [] (Det (some (.int (iZ (if s ≠ 0 ∧ -13859 ≤ s ∧ s ≤ 13859 then causF s else -100001)))) []) := by
  refine Ctr.go (own := RX11) (nm := "caustic") (by decide +kernel) rfl rfl [some (.ref x), some (.int (iZ s))] 0 rfl rfl (Nat.le_of_ble_eq_true rfl) ?_
  intro K h hF
  refine V_iload_n h (dk dd_X11_caustic_0 0 rfl) rfl get1 ?_
  refine V_callS h st1 ci_X11_102 pk_n rfl (m_X0_isStep l G _ (by omega)) rfl rfl (Nat.le_of_ble_eq_true rfl) (by decide) ⟨rfl, rfl, rfl⟩ (dk dd_X11_caustic_0 1 rfl) sk1 sm_n ?_
  refine V_ifz_eq (tgt := 14) h (dk dd_X11_caustic_0 2 rfl) rfl (fun c4 => ?_) (fun c4 => ?_)
  · refine V_ldc h q2_32 (dk dd_X11_caustic_0 6 rfl) ?_
    refine V_iret h hF (dk dd_X11_caustic_0 7 rfl) ⟨Nat.le_of_ble_eq_true rfl, Nat.le_of_ble_eq_true rfl⟩ ?_
    exact det_i (by first | rw [if_pos (by assumption)] | rw [if_neg (by assumption)]) rfl
  · refine V_iload_n h (dk dd_X11_caustic_0 3 rfl) rfl get1 ?_
    refine V_callS h st1 ci_X11_159 pk_n rfl (m_X0_causticRadius l G _ (by omega)) rfl rfl (Nat.le_of_ble_eq_true rfl) (by decide) ⟨rfl, rfl, rfl⟩ (dk dd_X11_caustic_0 4 rfl) sk1 sm_n ?_
    refine V_goto (tgt := 16) h (dk dd_X11_caustic_0 5 rfl) rfl ?_
    refine V_iret h hF (dk dd_X11_caustic_0 7 rfl) ⟨Nat.le_of_ble_eq_true rfl, Nat.le_of_ble_eq_true rfl⟩ ?_
    exact det_i (by first | rw [if_pos (by assumption)] | rw [if_neg (by assumption)]) rfl

set_option maxHeartbeats 4000000 in
set_option maxRecDepth 100000 in
theorem m_X11_order (l : Launch) (G : GT) (x : Nat) (s : Int) (hs : R32 s) : Ctr l G yX11_order cX11_order 2 (Option.some FieldType.int) (rmO 2 0 0 44) [.ref x, .int (iZ s)] [] (Det (some (.int (iZ (if s ≠ 0 ∧ -13859 ≤ s ∧ s ≤ 13859 then 27720 / gcdF s else -100001)))) []) := by
  refine Ctr.go (own := RX11) (nm := "order") (by decide +kernel) rfl rfl [some (.ref x), some (.int (iZ s))] 0 rfl rfl (Nat.le_of_ble_eq_true rfl) ?_
  intro K h hF
  have hg := gcd_pos s
  have hg2 := gcd_le s
  refine V_iload_n h (dk dd_X11_order_0 0 rfl) rfl get1 ?_
  refine V_callS h st1 ci_X11_102 pk_n rfl (m_X0_isStep l G _ (by omega)) rfl rfl (Nat.le_of_ble_eq_true rfl) (by decide) ⟨rfl, rfl, rfl⟩ (dk dd_X11_order_0 1 rfl) sk1 sm_n ?_
  refine V_ifz_eq (tgt := 18) h (dk dd_X11_order_0 2 rfl) rfl (fun c4 => ?_) (fun c4 => ?_)
  · refine V_ldc h q2_32 (dk dd_X11_order_0 8 rfl) ?_
    refine V_iret h hF (dk dd_X11_order_0 9 rfl) ⟨Nat.le_of_ble_eq_true rfl, Nat.le_of_ble_eq_true rfl⟩ ?_
    exact det_i (by first | rw [if_pos (by assumption)] | rw [if_neg (by assumption)]) rfl
  · refine V_sipush h (dk dd_X11_order_0 3 rfl) (by decide) ?_
    refine V_iload_n h (dk dd_X11_order_0 4 rfl) rfl get1 ?_
    refine V_callS h st1 ci_X11_162 pk_n rfl (m_X0_sharedDivisor l G _ (by omega)) rfl rfl (Nat.le_of_ble_eq_true rfl) (by decide) ⟨rfl, rfl, rfl⟩ (dk dd_X11_order_0 5 rfl) sk1 sm_n ?_
    refine V_idivP h (dk dd_X11_order_0 6 rfl) (by omega) ?_
    refine V_goto (tgt := 20) h (dk dd_X11_order_0 7 rfl) rfl ?_
    refine V_iret h hF (dk dd_X11_order_0 9 rfl) ⟨Nat.le_of_ble_eq_true rfl, Nat.le_of_ble_eq_true rfl⟩ ?_
    exact det_i (by first | rw [if_pos (by assumption)] | rw [if_neg (by assumption)]) rfl

set_option maxHeartbeats 4000000 in
set_option maxRecDepth 100000 in
theorem m_X11_turns (l : Launch) (G : GT) (x : Nat) (s : Int) (hs : R32 s) : Ctr l G yX11_turns cX11_turns 2 (Option.some FieldType.int) (rmO 2 0 0 44) [.ref x, .int (iZ s)] [] (Det (some (.int (iZ (if s ≠ 0 ∧ -13859 ≤ s ∧ s ≤ 13859 then (s.natAbs : Int) / gcdF s else -100001)))) []) := by
  refine Ctr.go (own := RX11) (nm := "turns") (by decide +kernel) rfl rfl [some (.ref x), some (.int (iZ s))] 0 rfl rfl (Nat.le_of_ble_eq_true rfl) ?_
  intro K h hF
  have hg := gcd_pos s
  have hg2 := gcd_le s
  refine V_iload_n h (dk dd_X11_turns_0 0 rfl) rfl get1 ?_
  refine V_callS h st1 ci_X11_102 pk_n rfl (m_X0_isStep l G _ (by omega)) rfl rfl (Nat.le_of_ble_eq_true rfl) (by decide) ⟨rfl, rfl, rfl⟩ (dk dd_X11_turns_0 1 rfl) sk1 sm_n ?_
  refine V_ifz_eq (tgt := 19) h (dk dd_X11_turns_0 2 rfl) rfl (fun c4 => ?_) (fun c4 => ?_)
  · refine V_ldc h q2_32 (dk dd_X11_turns_0 9 rfl) ?_
    refine V_iret h hF (dk dd_X11_turns_0 10 rfl) ⟨Nat.le_of_ble_eq_true rfl, Nat.le_of_ble_eq_true rfl⟩ ?_
    exact det_i (by first | rw [if_pos (by assumption)] | rw [if_neg (by assumption)]) rfl
  · refine V_iload_n h (dk dd_X11_turns_0 3 rfl) rfl get1 ?_
    refine V_callS h st1 ci_X11_165 pk_n rfl (m_J9_abs_0f7a4 l G _ (by omega)) rfl rfl (Nat.le_of_ble_eq_true rfl) (by decide) ⟨rfl, rfl, rfl⟩ (dk dd_X11_turns_0 4 rfl) sk1 sm_n ?_
    refine V_iload_n h (dk dd_X11_turns_0 5 rfl) rfl get1 ?_
    refine V_callS h st1 ci_X11_162 pk_n rfl (m_X0_sharedDivisor l G _ (by omega)) rfl rfl (Nat.le_of_ble_eq_true rfl) (by decide) ⟨rfl, rfl, rfl⟩ (dk dd_X11_turns_0 6 rfl) sk1 sm_n ?_
    refine V_idivP h (dk dd_X11_turns_0 7 rfl) (by omega) ?_
    refine V_goto (tgt := 21) h (dk dd_X11_turns_0 8 rfl) rfl ?_
    refine V_iret h hF (dk dd_X11_turns_0 10 rfl) ⟨Nat.le_of_ble_eq_true rfl, Nat.le_of_ble_eq_true rfl⟩ ?_
    exact det_i (by first | rw [if_pos (by assumption)] | rw [if_neg (by assumption)]) rfl

set_option maxHeartbeats 4000000 in
set_option maxRecDepth 100000 in
theorem m_X11_aim (l : Launch) (G : GT) (x : Nat) (p q k : Int) (hp : R32 p) (hq : R32 q) (hk : R32 k) : Ctr l G yX11_aim cX11_aim 5 (Option.some FieldType.int) (rmO 3 0 0 67) [.ref x, .int (iZ p), .int (iZ q), .int (iZ k)] [] (Det (some (.int (iZ (if (0 ≤ p ∧ p < 27720) ∧ (0 ≤ q ∧ q < 27720) ∧ 1 ≤ k ∧ k ≤ 50 then (if aimF (q - p) k = 0 then -100009 else aimF (q - p) k) else -100001)))) []) := by
  refine Ctr.go (own := RX11) (nm := "aim") (by decide +kernel) rfl rfl [some (.ref x), some (.int (iZ p)), some (.int (iZ q)), some (.int (iZ k)), none] 1 rfl rfl (Nat.le_of_ble_eq_true rfl) ?_
  intro K h hF
  refine V_iload_n h (dk dd_X11_aim_0 0 rfl) rfl get1 ?_
  refine V_callS h st1 ci_X11_97 pk_n rfl (m_X0_isPlace l G _ (by omega)) rfl rfl (Nat.le_of_ble_eq_true rfl) (by decide) ⟨rfl, rfl, rfl⟩ (dk dd_X11_aim_0 1 rfl) sk1 sm_n ?_
  refine V_ifz_eq (tgt := 14) h (dk dd_X11_aim_0 2 rfl) rfl (fun c4 => ?_) (fun c4 => ?_)
  · refine V_ldc h q2_32 (dk dd_X11_aim_0 6 rfl) ?_
    refine V_iret h hF (dk dd_X11_aim_0 7 rfl) ⟨Nat.le_of_ble_eq_true rfl, Nat.le_of_ble_eq_true rfl⟩ ?_
    exact det_i (by first | rw [if_neg (by omega)] | rw [if_pos (by omega), if_pos (by assumption)] | rw [if_pos (by omega), if_neg (by assumption)]) rfl
  · refine V_iload_n h (dk dd_X11_aim_0 3 rfl) rfl get2 ?_
    refine V_callS h st1 ci_X11_97 pk_n rfl (m_X0_isPlace l G _ (by omega)) rfl rfl (Nat.le_of_ble_eq_true rfl) (by decide) ⟨rfl, rfl, rfl⟩ (dk dd_X11_aim_0 4 rfl) sk1 sm_n ?_
    refine V_ifz_ne (tgt := 17) h (dk dd_X11_aim_0 5 rfl) rfl (fun c11 => ?_) (fun c11 => ?_)
    · refine V_iload_n h (dk dd_X11_aim_0 8 rfl) rfl get3 ?_
      refine V_iconst h (dk dd_X11_aim_0 9 rfl) ?_
      refine V_icmp_lt (tgt := 28) h (dk dd_X11_aim_0 10 rfl) rfl (by omega) (fun c19 => ?_) (fun c19 => ?_)
      · refine V_ldc h q2_32 (dk dd_X11_aim_0 14 rfl) ?_
        refine V_iret h hF (dk dd_X11_aim_0 15 rfl) ⟨Nat.le_of_ble_eq_true rfl, Nat.le_of_ble_eq_true rfl⟩ ?_
        exact det_i (by first | rw [if_neg (by omega)] | rw [if_pos (by omega), if_pos (by assumption)] | rw [if_pos (by omega), if_neg (by assumption)]) rfl
      · refine V_iload_n h (dk dd_X11_aim_0 11 rfl) rfl get3 ?_
        refine V_bipush h (dk dd_X11_aim_0 12 rfl) (by decide) ?_
        refine V_icmp_le (tgt := 31) h (dk dd_X11_aim_0 13 rfl) rfl (by omega) (fun c25 => ?_) (fun c25 => ?_)
        · refine V_iload_n h (dk dd_X11_aim_0 16 rfl) rfl get2 ?_
          refine V_iload_n h (dk dd_X11_aim_0 17 rfl) rfl get1 ?_
          refine V_isub h (dk dd_X11_aim_0 18 rfl) ?_
          refine V_iload_n h (dk dd_X11_aim_0 19 rfl) rfl get3 ?_
          refine V_callS h st2 ci_X11_170 pk_n rfl (m_X0_smallestStep l G _ _ (by omega) (by omega)) rfl rfl (Nat.le_of_ble_eq_true rfl) (by decide) ⟨rfl, rfl, rfl⟩ (dk dd_X11_aim_0 20 rfl) sk1 sm_n ?_
          have hR := aim_R32 (d := q - p) (c := k) (by omega) (by omega)
          refine V_istore h (dk dd_X11_aim_0 21 rfl) (Nat.le_of_ble_eq_true rfl) rfl set4 ?_
          refine V_iload h (dk dd_X11_aim_0 22 rfl) get4 ?_
          refine V_if_ne (tgt := 50) h (dk dd_X11_aim_0 23 rfl) rfl (by omega) (fun c42 => ?_) (fun c42 => ?_)
          · refine V_iload h (dk dd_X11_aim_0 26 rfl) get4 ?_
            refine V_iret h hF (dk dd_X11_aim_0 27 rfl) ⟨Nat.le_of_ble_eq_true rfl, Nat.le_of_ble_eq_true rfl⟩ ?_
            exact det_i (by first | rw [if_neg (by omega)] | rw [if_pos (by omega), if_pos (by assumption)] | rw [if_pos (by omega), if_neg (by assumption)]) rfl
          · refine V_ldc h q3_15 (dk dd_X11_aim_0 24 rfl) ?_
            refine V_goto (tgt := 52) h (dk dd_X11_aim_0 25 rfl) rfl ?_
            refine V_iret h hF (dk dd_X11_aim_0 27 rfl) ⟨Nat.le_of_ble_eq_true rfl, Nat.le_of_ble_eq_true rfl⟩ ?_
            exact det_i (by first | rw [if_neg (by omega)] | rw [if_pos (by omega), if_pos (by assumption)] | rw [if_pos (by omega), if_neg (by assumption)]) rfl
        · refine V_ldc h q2_32 (dk dd_X11_aim_0 14 rfl) ?_
          refine V_iret h hF (dk dd_X11_aim_0 15 rfl) ⟨Nat.le_of_ble_eq_true rfl, Nat.le_of_ble_eq_true rfl⟩ ?_
          exact det_i (by first | rw [if_neg (by omega)] | rw [if_pos (by omega), if_pos (by assumption)] | rw [if_pos (by omega), if_neg (by assumption)]) rfl
    · refine V_ldc h q2_32 (dk dd_X11_aim_0 6 rfl) ?_
      refine V_iret h hF (dk dd_X11_aim_0 7 rfl) ⟨Nat.le_of_ble_eq_true rfl, Nat.le_of_ble_eq_true rfl⟩ ?_
      exact det_i (by first | rw [if_neg (by omega)] | rw [if_pos (by omega), if_pos (by assumption)] | rw [if_pos (by omega), if_neg (by assumption)]) rfl

set_option maxHeartbeats 4000000 in
set_option maxRecDepth 100000 in
theorem m_X11_widest (l : Launch) (G : GT) (x : Nat) (k : Int) (hk : R32 k) : Ctr l G yX11_widest cX11_widest 2 (Option.some FieldType.int) (rmO 2 0 0 43) [.ref x, .int (iZ k)] [] (Det (some (.int (iZ (if 0 ≤ k ∧ k ≤ 1000000 then (if k ≤ causF 1 then 1 else -100009) else -100001)))) []) := by
  refine Ctr.go (own := RX11) (nm := "widest") (by decide +kernel) rfl rfl [some (.ref x), some (.int (iZ k))] 0 rfl rfl (Nat.le_of_ble_eq_true rfl) ?_
  intro K h hF
  have hR := caus_R (s := 1) (by omega)
  refine V_iload_n h (dk dd_X11_widest_0 0 rfl) rfl get1 ?_
  refine V_if_lt (tgt := 10) h (dk dd_X11_widest_0 1 rfl) rfl (by omega) (fun c1 => ?_) (fun c1 => ?_)
  · refine V_ldc h q2_32 (dk dd_X11_widest_0 5 rfl) ?_
    refine V_iret h hF (dk dd_X11_widest_0 6 rfl) ⟨Nat.le_of_ble_eq_true rfl, Nat.le_of_ble_eq_true rfl⟩ ?_
    exact det_i (by first | rw [if_neg (by omega)] | rw [if_pos (by omega), if_pos (by omega)] | rw [if_pos (by omega), if_neg (by omega)]) rfl
  · refine V_iload_n h (dk dd_X11_widest_0 2 rfl) rfl get1 ?_
    refine V_ldc h q2_69 (dk dd_X11_widest_0 3 rfl) ?_
    refine V_icmp_le (tgt := 13) h (dk dd_X11_widest_0 4 rfl) rfl (by omega) (fun c7 => ?_) (fun c7 => ?_)
    · refine V_iconst h (dk dd_X11_widest_0 7 rfl) ?_
      refine V_callS h st1 ci_X11_159 pk_n rfl (m_X0_causticRadius l G _ (by omega)) rfl rfl (Nat.le_of_ble_eq_true rfl) (by decide) ⟨rfl, rfl, rfl⟩ (dk dd_X11_widest_0 8 rfl) sk1 sm_n ?_
      refine V_iload_n h (dk dd_X11_widest_0 9 rfl) rfl get1 ?_
      refine V_icmp_lt (tgt := 25) h (dk dd_X11_widest_0 10 rfl) rfl (by omega) (fun c18 => ?_) (fun c18 => ?_)
      · refine V_ldc h q3_15 (dk dd_X11_widest_0 13 rfl) ?_
        refine V_iret h hF (dk dd_X11_widest_0 14 rfl) ⟨Nat.le_of_ble_eq_true rfl, Nat.le_of_ble_eq_true rfl⟩ ?_
        exact det_i (by first | rw [if_neg (by omega)] | rw [if_pos (by omega), if_pos (by omega)] | rw [if_pos (by omega), if_neg (by omega)]) rfl
      · refine V_iconst h (dk dd_X11_widest_0 11 rfl) ?_
        refine V_goto (tgt := 27) h (dk dd_X11_widest_0 12 rfl) rfl ?_
        refine V_iret h hF (dk dd_X11_widest_0 14 rfl) ⟨Nat.le_of_ble_eq_true rfl, Nat.le_of_ble_eq_true rfl⟩ ?_
        exact det_i (by first | rw [if_neg (by omega)] | rw [if_pos (by omega), if_pos (by omega)] | rw [if_pos (by omega), if_neg (by omega)]) rfl
    · refine V_ldc h q2_32 (dk dd_X11_widest_0 5 rfl) ?_
      refine V_iret h hF (dk dd_X11_widest_0 6 rfl) ⟨Nat.le_of_ble_eq_true rfl, Nat.le_of_ble_eq_true rfl⟩ ?_
      exact det_i (by first | rw [if_neg (by omega)] | rw [if_pos (by omega), if_pos (by omega)] | rw [if_pos (by omega), if_neg (by omega)]) rfl

set_option maxHeartbeats 4000000 in
set_option maxRecDepth 100000 in
theorem m_undo_none (l : Launch) (G : GT) (x w hi tx sh : Nat) (pw aw : Nat) (n lo2 z : Int) (f : Int → Int) (sa : Nat) (wa pa aa : Nat → Nat) (N L T : Nat → Int) (F : Nat → Int → Int) (c : Int) (hc : c = 0) : Ctr l G yX11_undo cX11_undo 1 (Option.some FieldType.int) (rmO 4 0 0 81) [.ref x] [(x, .inr (10, [.ref w, .ref hi, .ref tx, .ref sh])), (w, .inr (9, [.ref pw, .int (iZ lo2), .int (iZ z)])), (pw, .inr (3, [.ref aw, .int (iZ n)])), (aw, .inl (G.2 0, 48, .inl (iF f))), (hi, .inr (1, [.ref sa, .int (iZ c)])), (sa, .inl (G.2 5, 5, .inr (.inr (.inr (.inr (arr5 wa)))))), ((wa 0), .inr (9, [.ref (pa 0), .int (iZ (L 0)), .int (iZ (T 0))])), ((pa 0), .inr (3, [.ref (aa 0), .int (iZ (N 0))])), ((aa 0), .inl (G.2 0, 48, .inl (iF (F 0)))), ((wa 1), .inr (9, [.ref (pa 1), .int (iZ (L 1)), .int (iZ (T 1))])), ((pa 1), .inr (3, [.ref (aa 1), .int (iZ (N 1))])), ((aa 1), .inl (G.2 0, 48, .inl (iF (F 1)))), ((wa 2), .inr (9, [.ref (pa 2), .int (iZ (L 2)), .int (iZ (T 2))])), ((pa 2), .inr (3, [.ref (aa 2), .int (iZ (N 2))])), ((aa 2), .inl (G.2 0, 48, .inl (iF (F 2)))), ((wa 3), .inr (9, [.ref (pa 3), .int (iZ (L 3)), .int (iZ (T 3))])), ((pa 3), .inr (3, [.ref (aa 3), .int (iZ (N 3))])), ((aa 3), .inl (G.2 0, 48, .inl (iF (F 3)))), ((wa 4), .inr (9, [.ref (pa 4), .int (iZ (L 4)), .int (iZ (T 4))])), ((pa 4), .inr (3, [.ref (aa 4), .int (iZ (N 4))])), ((aa 4), .inl (G.2 0, 48, .inl (iF (F 4))))] (Det (some (.int (iZ (-100009)))) [(x, .inr (10, [.ref w, .ref hi, .ref tx, .ref sh])), (w, .inr (9, [.ref pw, .int (iZ lo2), .int (iZ z)])), (pw, .inr (3, [.ref aw, .int (iZ n)])), (aw, .inl (G.2 0, 48, .inl (iF f))), (hi, .inr (1, [.ref sa, .int (iZ c)])), (sa, .inl (G.2 5, 5, .inr (.inr (.inr (.inr (arr5 wa)))))), ((wa 0), .inr (9, [.ref (pa 0), .int (iZ (L 0)), .int (iZ (T 0))])), ((pa 0), .inr (3, [.ref (aa 0), .int (iZ (N 0))])), ((aa 0), .inl (G.2 0, 48, .inl (iF (F 0)))), ((wa 1), .inr (9, [.ref (pa 1), .int (iZ (L 1)), .int (iZ (T 1))])), ((pa 1), .inr (3, [.ref (aa 1), .int (iZ (N 1))])), ((aa 1), .inl (G.2 0, 48, .inl (iF (F 1)))), ((wa 2), .inr (9, [.ref (pa 2), .int (iZ (L 2)), .int (iZ (T 2))])), ((pa 2), .inr (3, [.ref (aa 2), .int (iZ (N 2))])), ((aa 2), .inl (G.2 0, 48, .inl (iF (F 2)))), ((wa 3), .inr (9, [.ref (pa 3), .int (iZ (L 3)), .int (iZ (T 3))])), ((pa 3), .inr (3, [.ref (aa 3), .int (iZ (N 3))])), ((aa 3), .inl (G.2 0, 48, .inl (iF (F 3)))), ((wa 4), .inr (9, [.ref (pa 4), .int (iZ (L 4)), .int (iZ (T 4))])), ((pa 4), .inr (3, [.ref (aa 4), .int (iZ (N 4))])), ((aa 4), .inl (G.2 0, 48, .inl (iF (F 4))))]) := by
  refine Ctr.go (own := RX11) (nm := "undo") (by decide +kernel) rfl rfl [some (.ref x)] 0 rfl rfl (Nat.le_of_ble_eq_true rfl) ?_
  intro K h hF
  refine V_aload_n h (dk dd_X11_undo_0 0 rfl) rfl get0 ?_
  refine V_get h fl_X11_19 0 get0 get1 (dk dd_X11_undo_0 1 rfl) ?_
  refine V_get h fl_X11_174 4 get4 get1 (dk dd_X11_undo_0 2 rfl) ?_
  refine V_if_ne (tgt := 13) h (dk dd_X11_undo_0 3 rfl) rfl (by omega) (fun c7 => ?_) (fun c7 => ?_)
  · exfalso; omega
  · refine V_ldc h q3_15 (dk dd_X11_undo_0 4 rfl) ?_
    refine V_iret h hF (dk dd_X11_undo_0 5 rfl) ⟨Nat.le_of_ble_eq_true rfl, Nat.le_of_ble_eq_true rfl⟩ ?_
    exact det_i (by first | rfl | omega) rfl

set_option maxHeartbeats 4000000 in
set_option maxRecDepth 100000 in
theorem m_undo_ok (l : Launch) (G : GT) (x w hi tx sh : Nat) (pw aw : Nat) (n lo2 z : Int) (f : Int → Int) (sa : Nat) (wa pa aa : Nat → Nat) (N L T : Nat → Int) (F : Nat → Int → Int) (c : Int) (hc : 1 ≤ c ∧ c ≤ 5) (hn : 0 ≤ N (c - 1).toNat ∧ N (c - 1).toNat ≤ 12) : Ctr l G yX11_undo cX11_undo 1 (Option.some FieldType.int) (rmO 4 0 0 81) [.ref x] [(x, .inr (10, [.ref w, .ref hi, .ref tx, .ref sh])), (w, .inr (9, [.ref pw, .int (iZ lo2), .int (iZ z)])), (pw, .inr (3, [.ref aw, .int (iZ n)])), (aw, .inl (G.2 0, 48, .inl (iF f))), (hi, .inr (1, [.ref sa, .int (iZ c)])), (sa, .inl (G.2 5, 5, .inr (.inr (.inr (.inr (arr5 wa)))))), ((wa 0), .inr (9, [.ref (pa 0), .int (iZ (L 0)), .int (iZ (T 0))])), ((pa 0), .inr (3, [.ref (aa 0), .int (iZ (N 0))])), ((aa 0), .inl (G.2 0, 48, .inl (iF (F 0)))), ((wa 1), .inr (9, [.ref (pa 1), .int (iZ (L 1)), .int (iZ (T 1))])), ((pa 1), .inr (3, [.ref (aa 1), .int (iZ (N 1))])), ((aa 1), .inl (G.2 0, 48, .inl (iF (F 1)))), ((wa 2), .inr (9, [.ref (pa 2), .int (iZ (L 2)), .int (iZ (T 2))])), ((pa 2), .inr (3, [.ref (aa 2), .int (iZ (N 2))])), ((aa 2), .inl (G.2 0, 48, .inl (iF (F 2)))), ((wa 3), .inr (9, [.ref (pa 3), .int (iZ (L 3)), .int (iZ (T 3))])), ((pa 3), .inr (3, [.ref (aa 3), .int (iZ (N 3))])), ((aa 3), .inl (G.2 0, 48, .inl (iF (F 3)))), ((wa 4), .inr (9, [.ref (pa 4), .int (iZ (L 4)), .int (iZ (T 4))])), ((pa 4), .inr (3, [.ref (aa 4), .int (iZ (N 4))])), ((aa 4), .inl (G.2 0, 48, .inl (iF (F 4))))] (Det (some (.int (iZ (c - 1)))) [(x, .inr (10, [.ref w, .ref hi, .ref tx, .ref sh])), (w, .inr (9, [.ref pw, .int (iZ (L (c - 1).toNat)), .int (iZ (T (c - 1).toNat))])), (pw, .inr (3, [.ref aw, .int (iZ (N (c - 1).toNat))])), (aw, .inl (G.2 0, 48, .inl (iF (cpyF (F (c - 1).toNat) f 0 0 (N (c - 1).toNat * 4))))), (hi, .inr (1, [.ref sa, .int (iZ (c - 1))])), (sa, .inl (G.2 5, 5, .inr (.inr (.inr (.inr (arr5 wa)))))), ((wa 0), .inr (9, [.ref (pa 0), .int (iZ (L 0)), .int (iZ (T 0))])), ((pa 0), .inr (3, [.ref (aa 0), .int (iZ (N 0))])), ((aa 0), .inl (G.2 0, 48, .inl (iF (F 0)))), ((wa 1), .inr (9, [.ref (pa 1), .int (iZ (L 1)), .int (iZ (T 1))])), ((pa 1), .inr (3, [.ref (aa 1), .int (iZ (N 1))])), ((aa 1), .inl (G.2 0, 48, .inl (iF (F 1)))), ((wa 2), .inr (9, [.ref (pa 2), .int (iZ (L 2)), .int (iZ (T 2))])), ((pa 2), .inr (3, [.ref (aa 2), .int (iZ (N 2))])), ((aa 2), .inl (G.2 0, 48, .inl (iF (F 2)))), ((wa 3), .inr (9, [.ref (pa 3), .int (iZ (L 3)), .int (iZ (T 3))])), ((pa 3), .inr (3, [.ref (aa 3), .int (iZ (N 3))])), ((aa 3), .inl (G.2 0, 48, .inl (iF (F 3)))), ((wa 4), .inr (9, [.ref (pa 4), .int (iZ (L 4)), .int (iZ (T 4))])), ((pa 4), .inr (3, [.ref (aa 4), .int (iZ (N 4))])), ((aa 4), .inl (G.2 0, 48, .inl (iF (F 4))))]) := by
  refine Ctr.go (own := RX11) (nm := "undo") (by decide +kernel) rfl rfl [some (.ref x)] 0 rfl rfl (Nat.le_of_ble_eq_true rfl) ?_
  intro K h hF
  refine V_aload_n h (dk dd_X11_undo_0 0 rfl) rfl get0 ?_
  refine V_get h fl_X11_19 0 get0 get1 (dk dd_X11_undo_0 1 rfl) ?_
  refine V_get h fl_X11_174 4 get4 get1 (dk dd_X11_undo_0 2 rfl) ?_
  refine V_if_ne (tgt := 13) h (dk dd_X11_undo_0 3 rfl) rfl (by omega) (fun c7 => ?_) (fun c7 => ?_)
  · refine V_aload_n h (dk dd_X11_undo_0 6 rfl) rfl get0 ?_
    refine V_get h fl_X11_19 0 get0 get1 (dk dd_X11_undo_0 7 rfl) ?_
    refine V_aload_n h (dk dd_X11_undo_0 8 rfl) rfl get0 ?_
    refine V_get h fl_X11_10 0 get0 get0 (dk dd_X11_undo_0 9 rfl) ?_
    refine V_callV h st2 ci_X11_175 (pk_c get4 (pk_c get5 (pk_c get6 (pk_c get7 (pk_c get8 (pk_c get9 (pk_c get10 (pk_c get11 (pk_c get12 (pk_c get13 (pk_c get14 (pk_c get15 (pk_c get16 (pk_c get17 (pk_c get18 (pk_c get19 (pk_c get20 (pk_c get1 (pk_c get2 (pk_c get3 pk_n)))))))))))))))))))) rfl 4 get4 rfl (m_X2_restore l G _ _ _ _ _ _ _ _ _ _ _ _ _ _ _ _ _ (by omega) (hn)) rfl rfl (Nat.le_of_ble_eq_true rfl) (by decide) ⟨rfl, rfl, rfl⟩ (dk dd_X11_undo_0 10 rfl) sk0 (sm_c set4 (sm_c set5 (sm_c set6 (sm_c set7 (sm_c set8 (sm_c set9 (sm_c set10 (sm_c set11 (sm_c set12 (sm_c set13 (sm_c set14 (sm_c set15 (sm_c set16 (sm_c set17 (sm_c set18 (sm_c set19 (sm_c set20 (sm_c set1 (sm_c set2 (sm_c set3 sm_n)))))))))))))))))))) ?_
    refine V_aload_n h (dk dd_X11_undo_0 11 rfl) rfl get0 ?_
    refine V_get h fl_X11_19 0 get0 get1 (dk dd_X11_undo_0 12 rfl) ?_
    refine V_get h fl_X11_174 4 get4 get1 (dk dd_X11_undo_0 13 rfl) ?_
    refine V_iret h hF (dk dd_X11_undo_0 14 rfl) ⟨Nat.le_of_ble_eq_true rfl, Nat.le_of_ble_eq_true rfl⟩ ?_
    exact det_i (by first | rfl | omega) rfl
  · exfalso; omega

