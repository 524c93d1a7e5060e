/-! the reference: a hit, a shot -/
set_option maxHeartbeats 4000000 in
set_option maxRecDepth 100000 in
theorem m_X12_goes (l : Launch) (G : GT) (x : Nat) (q : Nat → Nat) (pm ty ap fo wr rm hm sb be : Int) (P T E S U : Int → Int) (vv N : Int → Int) (ie my su fi mo : Int → Int) (r tb hb : Int) (hI : RI tb (rm, P, S, E, T, U)) (hEI : EI hb (ie, my, su, fi, mo)) (hhb : 0 ≤ hb ∧ hb ≤ 100000) (htb : 0 ≤ tb ∧ tb ≤ 2000000000) (hr : 0 ≤ r ∧ r < rm) (hh : 0 ≤ hm ∧ hm < 600) (hW : WallOK (vv 0) (vv 1) (vv 2) (vF vv)) : Ctr l G yX12_goes cX12_goes 4 none (rmO 4 0 0 88) [.ref x, .int (iZ r)] [(x, .inr (11, [.ref (q 1), .ref (q 2), .int (iZ pm), .ref (q 3), .int (iZ ty), .int (iZ ap), .int (iZ fo), .int (iZ wr), .ref (q 4), .ref (q 5), .ref (q 6), .ref (q 7), .ref (q 8), .ref (q 9), .ref (q 10), .int (iZ rm), .ref (q 11), .ref (q 12), .int (iZ hm), .ref (q 13), .ref (q 14), .ref (q 15), .ref (q 16), .int (iZ sb), .int (iZ be), .ref (q 17), .ref (q 18)])), ((q 1), .inl (G.2 0, 60, .inl (iF vv))), ((q 6), .inl (G.2 0, 100, .inl (iF P))), ((q 7), .inl (G.2 1, 100, .inr (.inl (lF T)))), ((q 8), .inl (G.2 0, 100, .inl (iF E))), ((q 9), .inl (G.2 0, 100, .inl (iF S))), ((q 10), .inl (G.2 2, 100, .inl (iF U))), ((q 11), .inl (G.2 1, 3000, .inr (.inl (lF N)))), ((q 12), .inl (G.2 2, 600, .inl (iF ie))), ((q 13), .inl (G.2 0, 12, .inl (iF my))), ((q 14), .inl (G.2 1, 12, .inr (.inl (lF su)))), ((q 15), .inl (G.2 1, 12, .inr (.inl (lF fi)))), ((q 16), .inl (G.2 0, 12, .inl (iF mo)))] (Det none [(x, .inr (11, [.ref (q 1), .ref (q 2), .int (iZ pm), .ref (q 3), .int (iZ ty), .int (iZ ap), .int (iZ fo), .int (iZ wr), .ref (q 4), .ref (q 5), .ref (q 6), .ref (q 7), .ref (q 8), .ref (q 9), .ref (q 10), .int (iZ (goM (vv 2) (vv 1) (vv 0) (vF vv) r (((rm, P, S, E, T, U), (ie, my, su, fi, mo)), hm, N)).1.1.1), .ref (q 11), .ref (q 12), .int (iZ (hm + 1)), .ref (q 13), .ref (q 14), .ref (q 15), .ref (q 16), .int (iZ sb), .int (iZ be), .ref (q 17), .ref (q 18)])), ((q 1), .inl (G.2 0, 60, .inl (iF vv))), ((q 6), .inl (G.2 0, 100, .inl (iF (goM (vv 2) (vv 1) (vv 0) (vF vv) r (((rm, P, S, E, T, U), (ie, my, su, fi, mo)), hm, N)).1.1.2.1))), ((q 7), .inl (G.2 1, 100, .inr (.inl (lF (goM (vv 2) (vv 1) (vv 0) (vF vv) r (((rm, P, S, E, T, U), (ie, my, su, fi, mo)), hm, N)).1.1.2.2.2.2.1)))), ((q 8), .inl (G.2 0, 100, .inl (iF (goM (vv 2) (vv 1) (vv 0) (vF vv) r (((rm, P, S, E, T, U), (ie, my, su, fi, mo)), hm, N)).1.1.2.2.2.1))), ((q 9), .inl (G.2 0, 100, .inl (iF (goM (vv 2) (vv 1) (vv 0) (vF vv) r (((rm, P, S, E, T, U), (ie, my, su, fi, mo)), hm, N)).1.1.2.2.1))), ((q 10), .inl (G.2 2, 100, .inl (iF (goM (vv 2) (vv 1) (vv 0) (vF vv) r (((rm, P, S, E, T, U), (ie, my, su, fi, mo)), hm, N)).1.1.2.2.2.2.2))), ((q 11), .inl (G.2 1, 3000, .inr (.inl (lF (goM (vv 2) (vv 1) (vv 0) (vF vv) r (((rm, P, S, E, T, U), (ie, my, su, fi, mo)), hm, N)).2.2)))), ((q 12), .inl (G.2 2, 600, .inl (iF (goM (vv 2) (vv 1) (vv 0) (vF vv) r (((rm, P, S, E, T, U), (ie, my, su, fi, mo)), hm, N)).1.2.1))), ((q 13), .inl (G.2 0, 12, .inl (iF (goM (vv 2) (vv 1) (vv 0) (vF vv) r (((rm, P, S, E, T, U), (ie, my, su, fi, mo)), hm, N)).1.2.2.1))), ((q 14), .inl (G.2 1, 12, .inr (.inl (lF (goM (vv 2) (vv 1) (vv 0) (vF vv) r (((rm, P, S, E, T, U), (ie, my, su, fi, mo)), hm, N)).1.2.2.2.1)))), ((q 15), .inl (G.2 1, 12, .inr (.inl (lF (goM (vv 2) (vv 1) (vv 0) (vF vv) r (((rm, P, S, E, T, U), (ie, my, su, fi, mo)), hm, N)).1.2.2.2.2.1)))), ((q 16), .inl (G.2 0, 12, .inl (iF (goM (vv 2) (vv 1) (vv 0) (vF vv) r (((rm, P, S, E, T, U), (ie, my, su, fi, mo)), hm, N)).1.2.2.2.2.2)))]) := by
  refine Ctr.go (own := RX12) (nm := "goes") (by decide +kernel) rfl rfl [some (.ref x), some (.int (iZ r)), none, none] 2 rfl rfl (Nat.le_of_ble_eq_true rfl) ?_
  intro K h hF
  have q0 := RI_one hI hr
  have hm2 := hI.2.1
  dsimp only at hm2
  obtain ⟨p1, hp1⟩ : ∃ p1, p1 = newP (rm, P, S, E, T, U) r := ⟨_, rfl⟩
  have hp2 : p1 = (P r + S r) % 27720 := hp1
  have hp1b : 0 ≤ p1 ∧ p1 < 27720 := by omega
  obtain ⟨w1, w2, w3, w4⟩ := hW
  have hI0 := hitM0_I hI hr w2
  have hc := chord_R (s := S r) q0.2.1.2
  refine V_aload_n h (dk dd_X12_goes_0 0 rfl) rfl get0 ?_
  refine V_get h fl_X12_28 0 get0 get11 (dk dd_X12_goes_0 1 rfl) ?_
  refine V_iload_n h (dk dd_X12_goes_0 2 rfl) rfl get1 ?_
  refine V_dup2 h (dk dd_X12_goes_0 3 rfl) rfl rfl ?_
  refine V_lald h 3 get3 (by omega) (dk dd_X12_goes_0 4 rfl) ?_
  refine V_aload_n h (dk dd_X12_goes_0 5 rfl) rfl get0 ?_
  refine V_get h fl_X12_35 0 get0 get13 (dk dd_X12_goes_0 6 rfl) ?_
  refine V_iload_n h (dk dd_X12_goes_0 7 rfl) rfl get1 ?_
  refine V_iald h 5 get5 (by omega) (dk dd_X12_goes_0 8 rfl) ?_
  refine V_callS h st1 ci_X12_150 pk_n rfl (m_X12_chord l G _ (by omega)) rfl rfl (Nat.le_of_ble_eq_true rfl) (by decide) ⟨rfl, rfl, rfl⟩ (dk dd_X12_goes_0 9 rfl) sk1 sm_n ?_
  refine V_i2l h (dk dd_X12_goes_0 10 rfl) (by omega) ?_
  refine V_ladd h (dk dd_X12_goes_0 11 rfl) ?_
  refine V_last h 3 get3 (by omega) set3 (dk dd_X12_goes_0 12 rfl) ?_
  refine V_aload_n h (dk dd_X12_goes_0 13 rfl) rfl get0 ?_
  refine V_get h fl_X12_25 0 get0 get10 (dk dd_X12_goes_0 14 rfl) ?_
  refine V_iload_n h (dk dd_X12_goes_0 15 rfl) rfl get1 ?_
  refine V_aload_n h (dk dd_X12_goes_0 16 rfl) rfl get0 ?_
  refine V_get h fl_X12_25 0 get0 get10 (dk dd_X12_goes_0 17 rfl) ?_
  refine V_iload_n h (dk dd_X12_goes_0 18 rfl) rfl get1 ?_
  refine V_iald h 2 get2 (by omega) (dk dd_X12_goes_0 19 rfl) ?_
  refine V_aload_n h (dk dd_X12_goes_0 20 rfl) rfl get0 ?_
  refine V_get h fl_X12_35 0 get0 get13 (dk dd_X12_goes_0 21 rfl) ?_
  refine V_iload_n h (dk dd_X12_goes_0 22 rfl) rfl get1 ?_
  refine V_iald h 5 get5 (by omega) (dk dd_X12_goes_0 23 rfl) ?_
  refine V_iadd h (dk dd_X12_goes_0 24 rfl) ?_
  refine V_sipush h (dk dd_X12_goes_0 25 rfl) (by decide) ?_
  refine V_iadd h (dk dd_X12_goes_0 26 rfl) ?_
  refine V_sipush h (dk dd_X12_goes_0 27 rfl) (by decide) ?_
  refine V_iremP h (dk dd_X12_goes_0 28 rfl) (by omega) ?_
  rw [show (P r + S r + 27720) % 27720 = p1 by omega]
  refine V_iast h 2 get2 (by omega) set2 (dk dd_X12_goes_0 29 rfl) ?_
  refine V_iconst h (dk dd_X12_goes_0 30 rfl) ?_
  refine V_aload_n h (dk dd_X12_goes_0 31 rfl) rfl get0 ?_
  refine V_get h fl_X12_172 0 get0 get18 (dk dd_X12_goes_0 32 rfl) ?_
  refine V_imul h (dk dd_X12_goes_0 33 rfl) ?_
  rw [Int.mul_comm 5 hm]
  refine V_istore_n h (dk dd_X12_goes_0 34 rfl) rfl (Nat.le_of_ble_eq_true rfl) rfl set2 ?_
  refine V_aload_n h (dk dd_X12_goes_0 35 rfl) rfl get0 ?_
  refine V_get h fl_X12_42 0 get0 get16 (dk dd_X12_goes_0 36 rfl) ?_
  refine V_iload_n h (dk dd_X12_goes_0 37 rfl) rfl get2 ?_
  refine V_iload_n h (dk dd_X12_goes_0 38 rfl) rfl get1 ?_
  refine V_i2l h (dk dd_X12_goes_0 39 rfl) (by omega) ?_
  refine V_last h 7 get7 (by omega) set7 (dk dd_X12_goes_0 40 rfl) ?_
  refine V_aload_n h (dk dd_X12_goes_0 41 rfl) rfl get0 ?_
  refine V_get h fl_X12_42 0 get0 get16 (dk dd_X12_goes_0 42 rfl) ?_
  refine V_iload_n h (dk dd_X12_goes_0 43 rfl) rfl get2 ?_
  refine V_iconst h (dk dd_X12_goes_0 44 rfl) ?_
  refine V_iadd h (dk dd_X12_goes_0 45 rfl) ?_
  refine V_aload_n h (dk dd_X12_goes_0 46 rfl) rfl get0 ?_
  refine V_get h fl_X12_25 0 get0 get10 (dk dd_X12_goes_0 47 rfl) ?_
  refine V_iload_n h (dk dd_X12_goes_0 48 rfl) rfl get1 ?_
  refine V_iald h 2 get2 (by omega) (dk dd_X12_goes_0 49 rfl) ?_
  rw [zup_s]
  refine V_i2l h (dk dd_X12_goes_1 0 rfl) (by omega) ?_
  refine V_last h 7 get7 (by omega) set7 (dk dd_X12_goes_1 1 rfl) ?_
  refine V_aload_n h (dk dd_X12_goes_1 2 rfl) rfl get0 ?_
  refine V_get h fl_X12_42 0 get0 get16 (dk dd_X12_goes_1 3 rfl) ?_
  refine V_iload_n h (dk dd_X12_goes_1 4 rfl) rfl get2 ?_
  refine V_iconst h (dk dd_X12_goes_1 5 rfl) ?_
  refine V_iadd h (dk dd_X12_goes_1 6 rfl) ?_
  refine V_aload_n h (dk dd_X12_goes_1 7 rfl) rfl get0 ?_
  refine V_get h fl_X12_28 0 get0 get11 (dk dd_X12_goes_1 8 rfl) ?_
  refine V_iload_n h (dk dd_X12_goes_1 9 rfl) rfl get1 ?_
  refine V_lald h 3 get3 (by omega) (dk dd_X12_goes_1 10 rfl) ?_
  rw [zup_s]
  refine V_last h 7 get7 (by omega) set7 (dk dd_X12_goes_1 11 rfl) ?_
  refine V_aload_n h (dk dd_X12_goes_1 12 rfl) rfl get0 ?_
  refine V_get h fl_X12_42 0 get0 get16 (dk dd_X12_goes_1 13 rfl) ?_
  refine V_iload_n h (dk dd_X12_goes_1 14 rfl) rfl get2 ?_
  refine V_iconst h (dk dd_X12_goes_1 15 rfl) ?_
  refine V_iadd h (dk dd_X12_goes_1 16 rfl) ?_
  refine V_aload_n h (dk dd_X12_goes_1 17 rfl) rfl get0 ?_
  refine V_get h fl_X12_32 0 get0 get12 (dk dd_X12_goes_1 18 rfl) ?_
  refine V_iload_n h (dk dd_X12_goes_1 19 rfl) rfl get1 ?_
  refine V_iald h 4 get4 (by omega) (dk dd_X12_goes_1 20 rfl) ?_
  refine V_i2l h (dk dd_X12_goes_1 21 rfl) (by omega) ?_
  refine V_last h 7 get7 (by omega) set7 (dk dd_X12_goes_1 22 rfl) ?_
  refine V_aload_n h (dk dd_X12_goes_1 23 rfl) rfl get0 ?_
  refine V_get h fl_X12_42 0 get0 get16 (dk dd_X12_goes_1 24 rfl) ?_
  refine V_iload_n h (dk dd_X12_goes_1 25 rfl) rfl get2 ?_
  refine V_iconst h (dk dd_X12_goes_1 26 rfl) ?_
  refine V_iadd h (dk dd_X12_goes_1 27 rfl) ?_
  refine V_aload_n h (dk dd_X12_goes_1 28 rfl) rfl get0 ?_
  refine V_get h fl_X12_35 0 get0 get13 (dk dd_X12_goes_1 29 rfl) ?_
  refine V_iload_n h (dk dd_X12_goes_1 30 rfl) rfl get1 ?_
  refine V_iald h 5 get5 (by omega) (dk dd_X12_goes_1 31 rfl) ?_
  refine V_i2l h (dk dd_X12_goes_1 32 rfl) (by omega) ?_
  refine V_last h 7 get7 (by omega) set7 (dk dd_X12_goes_1 33 rfl) ?_
  refine V_aload_n h (dk dd_X12_goes_1 34 rfl) rfl get0 ?_
  refine V_get h fl_X12_45 0 get0 get17 (dk dd_X12_goes_1 35 rfl) ?_
  refine V_aload_n h (dk dd_X12_goes_1 36 rfl) rfl get0 ?_
  refine V_get h fl_X12_172 0 get0 get18 (dk dd_X12_goes_1 37 rfl) ?_
  refine V_iconst h (dk dd_X12_goes_1 38 rfl) ?_
  refine V_zast h 8 get8 (by omega) (by decide) set8 (dk dd_X12_goes_1 39 rfl) ?_
  refine V_aload_n h (dk dd_X12_goes_1 40 rfl) rfl get0 ?_
  refine V_dup h (dk dd_X12_goes_1 41 rfl) rfl ?_
  refine V_get h fl_X12_172 0 get0 get18 (dk dd_X12_goes_1 42 rfl) ?_
  refine V_iconst h (dk dd_X12_goes_1 43 rfl) ?_
  refine V_iadd h (dk dd_X12_goes_1 44 rfl) ?_
  refine V_put h pf_X12_172 0 get0 (Nat.le_of_ble_eq_true rfl) set18 set0 rfl rfl (dk dd_X12_goes_1 45 rfl) ?_
  refine V_aload_n h (dk dd_X12_goes_1 46 rfl) rfl get0 ?_
  refine V_get h fl_X12_32 0 get0 get12 (dk dd_X12_goes_1 47 rfl) ?_
  refine V_iload_n h (dk dd_X12_goes_1 48 rfl) rfl get1 ?_
  refine V_aload_n h (dk dd_X12_goes_1 49 rfl) rfl get0 ?_
  refine V_get h fl_X12_32 0 get0 get12 (dk dd_X12_goes_2 0 rfl) ?_
  refine V_iload_n h (dk dd_X12_goes_2 1 rfl) rfl get1 ?_
  refine V_iald h 4 get4 (by omega) (dk dd_X12_goes_2 2 rfl) ?_
  refine V_i2l h (dk dd_X12_goes_2 3 rfl) (by omega) ?_
  refine V_sipush h (dk dd_X12_goes_2 4 rfl) (by decide) ?_
  refine V_aload_n h (dk dd_X12_goes_2 5 rfl) rfl get0 ?_
  refine V_get h fl_X12_7 0 get0 get0 (dk dd_X12_goes_2 6 rfl) ?_
  refine V_iconst h (dk dd_X12_goes_2 7 rfl) ?_
  refine V_iald h 1 get1 (by omega) (dk dd_X12_goes_2 8 rfl) ?_
  refine V_isub h (dk dd_X12_goes_2 9 rfl) ?_
  refine V_i2l h (dk dd_X12_goes_2 10 rfl) (by omega) ?_
  have hlb := lose_b (k := vv 1) q0.2.2.1 (by omega)
  have hm3 := Int.mul_nonneg (a := E r) (b := 1000 - vv 1) (by omega) (by omega)
  have hm4 := Int.mul_le_mul_of_nonneg_left (a := 1000 - vv 1) (b := 1000) (c := E r) (by omega) (by omega)
  refine V_lmul h (dk dd_X12_goes_2 11 rfl) ?_
  refine V_ldc2 h q5_11 (dk dd_X12_goes_2 12 rfl) ?_
  refine V_ldivP h (dk dd_X12_goes_2 13 rfl) (by omega) ?_
  refine V_l2i h (dk dd_X12_goes_2 14 rfl) ?_
  refine V_iast h 4 get4 (by omega) set4 (dk dd_X12_goes_2 15 rfl) ?_
  refine V_iconst h (dk dd_X12_goes_2 16 rfl) ?_
  refine V_istore_n h (dk dd_X12_goes_2 17 rfl) rfl (Nat.le_of_ble_eq_true rfl) rfl set3 ?_
  have L172 : ∀ (fu : Nat) (i m1 : Int) (P1 S1 E1 T1 U1 ie1 my1 su1 fi1 mo1 : Int → Int), 0 ≤ i ∧ i ≤ vv 0 ∧ ((m1, P1, S1, E1, T1, U1), (ie1, my1, su1, fi1, mo1)) = partsM (vv 2) (hm + 1) r (vF vv) i.toNat (hitM0 (vv 1) r (rm, P, S, E, T, U), (zup ie hm 0, my, su, fi, mo)) → (vv 0 - i).toNat < fu → V K (0, 0) 172 [some (.ref x), some (.int (iZ r)), some (.int (iZ (hm * 5))), some (.int (iZ i))] [] [(x, .inr (11, [.ref (q 1), .ref (q 2), .int (iZ pm), .ref (q 3), .int (iZ ty), .int (iZ ap), .int (iZ fo), .int (iZ wr), .ref (q 4), .ref (q 5), .ref (q 6), .ref (q 7), .ref (q 8), .ref (q 9), .ref (q 10), .int (iZ m1), .ref (q 11), .ref (q 12), .int (iZ (hm + 1)), .ref (q 13), .ref (q 14), .ref (q 15), .ref (q 16), .int (iZ sb), .int (iZ be), .ref (q 17), .ref (q 18)])), ((q 1), .inl (G.2 0, 60, .inl (iF vv))), ((q 6), .inl (G.2 0, 100, .inl (iF P1))), ((q 7), .inl (G.2 1, 100, .inr (.inl (lF T1)))), ((q 8), .inl (G.2 0, 100, .inl (iF E1))), ((q 9), .inl (G.2 0, 100, .inl (iF S1))), ((q 10), .inl (G.2 2, 100, .inl (iF U1))), ((q 11), .inl (G.2 1, 3000, .inr (.inl (lF (noteF N hm r p1 (T r + chordF (S r)) (E r) (S r)))))), ((q 12), .inl (G.2 2, 600, .inl (iF ie1))), ((q 13), .inl (G.2 0, 12, .inl (iF my1))), ((q 14), .inl (G.2 1, 12, .inr (.inl (lF su1)))), ((q 15), .inl (G.2 1, 12, .inr (.inl (lF fi1)))), ((q 16), .inl (G.2 0, 12, .inl (iF mo1)))] := by
    intro fu
    induction fu with
    | zero => intro i m1 P1 S1 E1 T1 U1 ie1 my1 su1 fi1 mo1 _ hm; exact absurd hm (Nat.not_lt_zero _)
    | succ fu ih172 =>
      intro i m1 P1 S1 E1 T1 U1 ie1 my1 su1 fi1 mo1 hI172 hm172
      obtain ⟨hi0, hi1, hx⟩ := hI172
      have hJ := partsM_I (thr := vv 2) (h := hm + 1) (tb := tb + 2000000) (hb := hb) (r := r) (t := T r + chordF (S r)) (p := p1) w4 w1.2 (by omega) hr.1 i.toNat (hitM0 (vv 1) r (rm, P, S, E, T, U), (zup ie hm 0, my, su, fi, mo)) (by omega) hI0 hEI hr.2 (by rw [hp1]; exact zup_s) zup_s
      rw [← hx] at hJ
      obtain ⟨j1, j2, j3, j4, j5⟩ := hJ
      dsimp only at j3 j4 j5
      have j6 := RI_one j1 ⟨hr.1, j3⟩
      have j7 := j1.2.1
      dsimp only at j7
      refine V_iload_n h (dk dd_X12_goes_2 18 rfl) rfl get3 ?_
      refine V_aload_n h (dk dd_X12_goes_2 19 rfl) rfl get0 ?_
      refine V_get h fl_X12_7 0 get0 get0 (dk dd_X12_goes_2 20 rfl) ?_
      refine V_iconst h (dk dd_X12_goes_2 21 rfl) ?_
      refine V_iald h 1 get1 (by omega) (dk dd_X12_goes_2 22 rfl) ?_
      refine V_icmp_ge (tgt := 217) h (dk dd_X12_goes_2 23 rfl) rfl (by omega) (fun c179 => ?_) (fun c179 => ?_)
      · have hfin : ((m1, P1, S1, E1, T1, U1), (ie1, my1, su1, fi1, mo1)) = partsM (vv 2) (hm + 1) r (vF vv) (vv 0).toNat (hitM0 (vv 1) r (rm, P, S, E, T, U), (zup ie hm 0, my, su, fi, mo)) := by rw [hx, show i = vv 0 by omega]
        refine V_aload_n h (dk dd_X12_goes_2 43 rfl) rfl get0 ?_
        refine V_get h fl_X12_38 0 get0 get14 (dk dd_X12_goes_2 44 rfl) ?_
        refine V_iload_n h (dk dd_X12_goes_2 45 rfl) rfl get1 ?_
        refine V_aload_n h (dk dd_X12_goes_2 46 rfl) rfl get0 ?_
        refine V_get h fl_X12_38 0 get0 get14 (dk dd_X12_goes_2 47 rfl) ?_
        refine V_iload_n h (dk dd_X12_goes_2 48 rfl) rfl get1 ?_
        refine V_zald h 6 get6 (by omega) (dk dd_X12_goes_2 49 rfl) ?_
        refine V_if_eq (tgt := 250) h (dk dd_X12_goes_3 0 rfl) rfl (j6.2.2.2.2.R) (fun c228 => ?_) (fun c228 => ?_)
        · refine V_iconst h (dk dd_X12_goes_3 12 rfl) ?_
          refine V_zast h 6 get6 (by omega) (by decide) set6 (dk dd_X12_goes_3 13 rfl) ?_
          refine V_vret h hF (dk dd_X12_goes_3 14 rfl) ⟨Nat.le_of_ble_eq_true rfl, Nat.le_of_ble_eq_true rfl⟩ ?_
          have e9 : (hiM (vv 2) (vv 1) (vv 0) r (vF vv) (((rm, P, S, E, T, U), (ie, my, su, fi, mo)), hm, N)) = ((m1, P1, S1, E1, T1, U1), (ie1, my1, su1, fi1, mo1)) := hfin.symm
          refine det_v ?_
          unfold goM
          rw [e9]
          dsimp only
          rw [← hp1]
          first | rw [endM_a (E := E1) (U := U1) (by assumption)] | rw [endM_b (E := E1) (U := U1) (show E1 r < vv 2 by omega)] | rw [endM_c (E := E1) (U := U1) (show vv 2 ≤ E1 r by omega) (j6.2.2.2.2.resolve_left (by assumption))]
          all_goals rfl
        · refine V_aload_n h (dk dd_X12_goes_3 1 rfl) rfl get0 ?_
          refine V_get h fl_X12_32 0 get0 get12 (dk dd_X12_goes_3 2 rfl) ?_
          refine V_iload_n h (dk dd_X12_goes_3 3 rfl) rfl get1 ?_
          refine V_iald h 4 get4 (by omega) (dk dd_X12_goes_3 4 rfl) ?_
          refine V_aload_n h (dk dd_X12_goes_3 5 rfl) rfl get0 ?_
          refine V_get h fl_X12_7 0 get0 get0 (dk dd_X12_goes_3 6 rfl) ?_
          refine V_iconst h (dk dd_X12_goes_3 7 rfl) ?_
          refine V_iald h 1 get1 (by omega) (dk dd_X12_goes_3 8 rfl) ?_
          refine V_icmp_lt (tgt := 250) h (dk dd_X12_goes_3 9 rfl) rfl (by omega) (fun c243 => ?_) (fun c243 => ?_)
          · refine V_iconst h (dk dd_X12_goes_3 12 rfl) ?_
            refine V_zast h 6 get6 (by omega) (by decide) set6 (dk dd_X12_goes_3 13 rfl) ?_
            refine V_vret h hF (dk dd_X12_goes_3 14 rfl) ⟨Nat.le_of_ble_eq_true rfl, Nat.le_of_ble_eq_true rfl⟩ ?_
            have e9 : (hiM (vv 2) (vv 1) (vv 0) r (vF vv) (((rm, P, S, E, T, U), (ie, my, su, fi, mo)), hm, N)) = ((m1, P1, S1, E1, T1, U1), (ie1, my1, su1, fi1, mo1)) := hfin.symm
            refine det_v ?_
            unfold goM
            rw [e9]
            dsimp only
            rw [← hp1]
            first | rw [endM_a (E := E1) (U := U1) (by assumption)] | rw [endM_b (E := E1) (U := U1) (show E1 r < vv 2 by omega)] | rw [endM_c (E := E1) (U := U1) (show vv 2 ≤ E1 r by omega) (j6.2.2.2.2.resolve_left (by assumption))]
            all_goals rfl
          · refine V_iconst h (dk dd_X12_goes_3 10 rfl) ?_
            refine V_goto (tgt := 251) h (dk dd_X12_goes_3 11 rfl) rfl ?_
            refine V_zast h 6 get6 (by omega) (by decide) set6 (dk dd_X12_goes_3 13 rfl) ?_
            refine V_vret h hF (dk dd_X12_goes_3 14 rfl) ⟨Nat.le_of_ble_eq_true rfl, Nat.le_of_ble_eq_true rfl⟩ ?_
            have e9 : (hiM (vv 2) (vv 1) (vv 0) r (vF vv) (((rm, P, S, E, T, U), (ie, my, su, fi, mo)), hm, N)) = ((m1, P1, S1, E1, T1, U1), (ie1, my1, su1, fi1, mo1)) := hfin.symm
            refine det_v ?_
            unfold goM
            rw [e9]
            dsimp only
            rw [← hp1]
            first | rw [endM_a (E := E1) (U := U1) (by assumption)] | rw [endM_b (E := E1) (U := U1) (show E1 r < vv 2 by omega)] | rw [endM_c (E := E1) (U := U1) (show vv 2 ≤ E1 r by omega) (j6.2.2.2.2.resolve_left (by assumption))]
            all_goals rfl
      · refine V_aload_n h (dk dd_X12_goes_2 24 rfl) rfl get0 ?_
        refine V_get h fl_X12_38 0 get0 get14 (dk dd_X12_goes_2 25 rfl) ?_
        refine V_iload_n h (dk dd_X12_goes_2 26 rfl) rfl get1 ?_
        refine V_zald h 6 get6 (by omega) (dk dd_X12_goes_2 27 rfl) ?_
        refine V_if_eq (tgt := 217) h (dk dd_X12_goes_2 28 rfl) rfl (j6.2.2.2.2.R) (fun c188 => ?_) (fun c188 => ?_)
        · have hfin := partsM_dead2 (n := vv 0) hx c188 hi0 hi1
          refine V_aload_n h (dk dd_X12_goes_2 43 rfl) rfl get0 ?_
          refine V_get h fl_X12_38 0 get0 get14 (dk dd_X12_goes_2 44 rfl) ?_
          refine V_iload_n h (dk dd_X12_goes_2 45 rfl) rfl get1 ?_
          refine V_aload_n h (dk dd_X12_goes_2 46 rfl) rfl get0 ?_
          refine V_get h fl_X12_38 0 get0 get14 (dk dd_X12_goes_2 47 rfl) ?_
          refine V_iload_n h (dk dd_X12_goes_2 48 rfl) rfl get1 ?_
          refine V_zald h 6 get6 (by omega) (dk dd_X12_goes_2 49 rfl) ?_
          refine V_if_eq (tgt := 250) h (dk dd_X12_goes_3 0 rfl) rfl (j6.2.2.2.2.R) (fun c228_2 => ?_) (fun c228_2 => ?_)
          · refine V_iconst h (dk dd_X12_goes_3 12 rfl) ?_
            refine V_zast h 6 get6 (by omega) (by decide) set6 (dk dd_X12_goes_3 13 rfl) ?_
            refine V_vret h hF (dk dd_X12_goes_3 14 rfl) ⟨Nat.le_of_ble_eq_true rfl, Nat.le_of_ble_eq_true rfl⟩ ?_
            have e9 : (hiM (vv 2) (vv 1) (vv 0) r (vF vv) (((rm, P, S, E, T, U), (ie, my, su, fi, mo)), hm, N)) = ((m1, P1, S1, E1, T1, U1), (ie1, my1, su1, fi1, mo1)) := hfin.symm
            refine det_v ?_
            unfold goM
            rw [e9]
            dsimp only
            rw [← hp1]
            first | rw [endM_a (E := E1) (U := U1) (by assumption)] | rw [endM_b (E := E1) (U := U1) (show E1 r < vv 2 by omega)] | rw [endM_c (E := E1) (U := U1) (show vv 2 ≤ E1 r by omega) (j6.2.2.2.2.resolve_left (by assumption))]
            all_goals rfl
          · exact absurd c188 c228_2
        · refine V_aload_n h (dk dd_X12_goes_2 29 rfl) rfl get0 ?_
          refine V_iload_n h (dk dd_X12_goes_2 30 rfl) rfl get3 ?_
          refine V_aload_n h (dk dd_X12_goes_2 31 rfl) rfl get0 ?_
          refine V_get h fl_X12_25 0 get0 get10 (dk dd_X12_goes_2 32 rfl) ?_
          refine V_iload_n h (dk dd_X12_goes_2 33 rfl) rfl get1 ?_
          refine V_iald h 2 get2 (by omega) (dk dd_X12_goes_2 34 rfl) ?_
          refine V_callV h st3 ci_X12_188 (pk_c get0 (pk_c get1 pk_n)) rfl 0 get0 rfl (m_X12_covers l G _ _ _ _ _ _ _ _ _ _ _ _ _ _ (by omega) (by omega) ((w4 i hi0 (by omega)).2.1) ((w4 i hi0 (by omega)).2.2.1)) rfl rfl (Nat.le_of_ble_eq_true rfl) (by decide) ⟨rfl, rfl, rfl⟩ (dk dd_X12_goes_2 35 rfl) sk1 (sm_c set0 (sm_c set1 sm_n)) ?_
          refine V_ifz_eq (tgt := 211) h (dk dd_X12_goes_2 36 rfl) rfl (fun c202 => ?_) (fun c202 => ?_)
          · refine V_iinc h (dk dd_X12_goes_2 41 rfl) get3 (Nat.le_of_ble_eq_true rfl) rfl set3 ?_
            refine V_goto (tgt := 172) h (dk dd_X12_goes_2 42 rfl) rfl ?_
            exact ih172 _ _ _ _ _ _ _ _ _ _ _ _ ⟨by omega, by omega, by rw [partsM_s hi0, ← hx, stepM_n c188 c202]⟩ (by omega)
          · refine V_aload_n h (dk dd_X12_goes_2 37 rfl) rfl get0 ?_
            refine V_iload_n h (dk dd_X12_goes_2 38 rfl) rfl get3 ?_
            refine V_iload_n h (dk dd_X12_goes_2 39 rfl) rfl get1 ?_
            refine V_callV h st3 ci_X12_191 (pk_c get0 (pk_c get1 (pk_c get2 (pk_c get3 (pk_c get4 (pk_c get5 (pk_c get6 (pk_c get8 (pk_c get9 (pk_c get10 (pk_c get11 (pk_c get12 pk_n)))))))))))) rfl 0 get0 rfl (m_X12_meets l G _ _ _ _ _ _ _ _ _ _ _ _ _ _ _ _ _ _ _ _ _ _ _ _ _ _ (j1) (j2) (by omega) (by omega) (by omega) (by omega) (w4 i hi0 (by omega)) (by omega)) rfl rfl (Nat.le_of_ble_eq_true rfl) (by decide) ⟨rfl, rfl, rfl⟩ (dk dd_X12_goes_2 40 rfl) sk0 (sm_c set0 (sm_c set1 (sm_c set2 (sm_c set3 (sm_c set4 (sm_c set5 (sm_c set6 (sm_c set8 (sm_c set9 (sm_c set10 (sm_c set11 (sm_c set12 sm_n)))))))))))) ?_
            refine V_iinc h (dk dd_X12_goes_2 41 rfl) get3 (Nat.le_of_ble_eq_true rfl) rfl set3 ?_
            refine V_goto (tgt := 172) h (dk dd_X12_goes_2 42 rfl) rfl ?_
            exact ih172 _ _ _ _ _ _ _ _ _ _ _ _ ⟨by omega, by omega, by rw [partsM_s hi0, ← hx, stepM_y c188 c202]⟩ (by omega)
  exact L172 _ 0 _ _ _ _ _ _ _ _ _ _ _ ⟨by omega, by omega, by rw [show (0 : Int).toNat = 0 from rfl]; unfold partsM hitM0; rw [← hp1]⟩ (Nat.lt_succ_self _)

set_option maxHeartbeats 4000000 in
set_option maxRecDepth 100000 in
theorem m_mshoot_bad (l : Launch) (G : GT) (x : Nat) (q : Nat → Nat) (pm ty ap fo wr rm hm sb be : Int) (p s e : Int) (hp : R32 p) (hs : R32 s) (he : R32 e) (hA : ¬ ((0 ≤ p ∧ p < 27720) ∧ (s ≠ 0 ∧ -13859 ≤ s ∧ s ≤ 13859) ∧ 1 ≤ e ∧ e ≤ 1000000)) : Ctr l G yX12_shoot cX12_shoot 5 (Option.some FieldType.int) (rmO 5 0 0 111) [.ref x, .int (iZ p), .int (iZ s), .int (iZ e)] [(x, .inr (11, [.ref (q 1), .ref (q 2), .int (iZ pm), .ref (q 3), .int (iZ ty), .int (iZ ap), .int (iZ fo), .int (iZ wr), .ref (q 4), .ref (q 5), .ref (q 6), .ref (q 7), .ref (q 8), .ref (q 9), .ref (q 10), .int (iZ rm), .ref (q 11), .ref (q 12), .int (iZ hm), .ref (q 13), .ref (q 14), .ref (q 15), .ref (q 16), .int (iZ sb), .int (iZ be), .ref (q 17), .ref (q 18)]))] (Det (some (.int (iZ (-100001)))) [(x, .inr (11, [.ref (q 1), .ref (q 2), .int (iZ pm), .ref (q 3), .int (iZ ty), .int (iZ ap), .int (iZ fo), .int (iZ wr), .ref (q 4), .ref (q 5), .ref (q 6), .ref (q 7), .ref (q 8), .ref (q 9), .ref (q 10), .int (iZ rm), .ref (q 11), .ref (q 12), .int (iZ hm), .ref (q 13), .ref (q 14), .ref (q 15), .ref (q 16), .int (iZ sb), .int (iZ be), .ref (q 17), .ref (q 18)]))]) := by
  refine Ctr.go (own := RX12) (nm := "shoot") (by decide +kernel) rfl rfl [some (.ref x), some (.int (iZ p)), some (.int (iZ s)), some (.int (iZ e)), none] 1 rfl rfl (Nat.le_of_ble_eq_true rfl) ?_
  intro K h hF
  refine V_iload_n h (dk dd_X12_shoot_0 0 rfl) rfl get1 ?_
  refine V_callS h st1 ci_X12_165 pk_n rfl (m_X12_isPlace l G _ (by omega)) rfl rfl (Nat.le_of_ble_eq_true rfl) (by decide) ⟨rfl, rfl, rfl⟩ (dk dd_X12_shoot_0 1 rfl) sk1 sm_n ?_
  refine V_ifz_eq (tgt := 24) h (dk dd_X12_shoot_0 2 rfl) rfl (fun c4 => ?_) (fun c4 => ?_)
  · refine V_ldc h q4_104 (dk dd_X12_shoot_0 11 rfl) ?_
    refine V_iret h hF (dk dd_X12_shoot_0 12 rfl) ⟨Nat.le_of_ble_eq_true rfl, Nat.le_of_ble_eq_true rfl⟩ ?_
    exact det_i (by first | rfl | omega) rfl
  · refine V_iload_n h (dk dd_X12_shoot_0 3 rfl) rfl get2 ?_
    refine V_callS h st1 ci_X12_147 pk_n rfl (m_X12_isStep l G _ (by omega)) rfl rfl (Nat.le_of_ble_eq_true rfl) (by decide) ⟨rfl, rfl, rfl⟩ (dk dd_X12_shoot_0 4 rfl) sk1 sm_n ?_
    refine V_ifz_eq (tgt := 24) h (dk dd_X12_shoot_0 5 rfl) rfl (fun c11 => ?_) (fun c11 => ?_)
    · refine V_ldc h q4_104 (dk dd_X12_shoot_0 11 rfl) ?_
      refine V_iret h hF (dk dd_X12_shoot_0 12 rfl) ⟨Nat.le_of_ble_eq_true rfl, Nat.le_of_ble_eq_true rfl⟩ ?_
      exact det_i (by first | rfl | omega) rfl
    · refine V_iload_n h (dk dd_X12_shoot_0 6 rfl) rfl get3 ?_
      refine V_iconst h (dk dd_X12_shoot_0 7 rfl) ?_
      refine V_ldc h q4_142 (dk dd_X12_shoot_0 8 rfl) ?_
      refine V_callS h st3 ci_X12_70 pk_n rfl (m_X12_in l G _ _ _ (by omega) (by omega) (by omega)) rfl rfl (Nat.le_of_ble_eq_true rfl) (by decide) ⟨rfl, rfl, rfl⟩ (dk dd_X12_shoot_0 9 rfl) sk1 sm_n ?_
      refine V_ifz_ne (tgt := 27) h (dk dd_X12_shoot_0 10 rfl) rfl (fun c21 => ?_) (fun c21 => ?_)
      · exact absurd ⟨c4, c11, by omega, by omega⟩ hA
      · refine V_ldc h q4_104 (dk dd_X12_shoot_0 11 rfl) ?_
        refine V_iret h hF (dk dd_X12_shoot_0 12 rfl) ⟨Nat.le_of_ble_eq_true rfl, Nat.le_of_ble_eq_true rfl⟩ ?_
        exact det_i (by first | rfl | omega) rfl

set_option maxHeartbeats 4000000 in
set_option maxRecDepth 100000 in
theorem m_mshoot_ok (l : Launch) (G : GT) (x : Nat) (q : Nat → Nat) (pm ty ap fo wr rm hm sb be : Int) (P T E S U : Int → Int) (vv N : Int → Int) (ie my su fi mo : Int → Int) (p s e : Int) (hp : R32 p) (hs : R32 s) (he : R32 e) (hA : (0 ≤ p ∧ p < 27720) ∧ (s ≠ 0 ∧ -13859 ≤ s ∧ s ≤ 13859) ∧ 1 ≤ e ∧ e ≤ 1000000) (hW : WallOK (vv 0) (vv 1) (vv 2) (vF vv)) : Ctr l G yX12_shoot cX12_shoot 5 (Option.some FieldType.int) (rmO 5 0 0 111) [.ref x, .int (iZ p), .int (iZ s), .int (iZ e)] [(x, .inr (11, [.ref (q 1), .ref (q 2), .int (iZ pm), .ref (q 3), .int (iZ ty), .int (iZ ap), .int (iZ fo), .int (iZ wr), .ref (q 4), .ref (q 5), .ref (q 6), .ref (q 7), .ref (q 8), .ref (q 9), .ref (q 10), .int (iZ rm), .ref (q 11), .ref (q 12), .int (iZ hm), .ref (q 13), .ref (q 14), .ref (q 15), .ref (q 16), .int (iZ sb), .int (iZ be), .ref (q 17), .ref (q 18)])), ((q 1), .inl (G.2 0, 60, .inl (iF vv))), ((q 6), .inl (G.2 0, 100, .inl (iF P))), ((q 7), .inl (G.2 1, 100, .inr (.inl (lF T)))), ((q 8), .inl (G.2 0, 100, .inl (iF E))), ((q 9), .inl (G.2 0, 100, .inl (iF S))), ((q 10), .inl (G.2 2, 100, .inl (iF U))), ((q 11), .inl (G.2 1, 3000, .inr (.inl (lF N)))), ((q 12), .inl (G.2 2, 600, .inl (iF ie))), ((q 13), .inl (G.2 0, 12, .inl (iF my))), ((q 14), .inl (G.2 1, 12, .inr (.inl (lF su)))), ((q 15), .inl (G.2 1, 12, .inr (.inl (lF fi)))), ((q 16), .inl (G.2 0, 12, .inl (iF mo)))] (Det (some (.int (iZ (itM (vv 2) (vv 1) (vv 0) (vF vv) 600 (iniM p s e (((rm, P, S, E, T, U), (ie, my, su, fi, mo)), hm, N))).2.1))) [(x, .inr (11, [.ref (q 1), .ref (q 2), .int (iZ pm), .ref (q 3), .int (iZ ty), .int (iZ ap), .int (iZ fo), .int (iZ wr), .ref (q 4), .ref (q 5), .ref (q 6), .ref (q 7), .ref (q 8), .ref (q 9), .ref (q 10), .int (iZ (itM (vv 2) (vv 1) (vv 0) (vF vv) 600 (iniM p s e (((rm, P, S, E, T, U), (ie, my, su, fi, mo)), hm, N))).1.1.1), .ref (q 11), .ref (q 12), .int (iZ (itM (vv 2) (vv 1) (vv 0) (vF vv) 600 (iniM p s e (((rm, P, S, E, T, U), (ie, my, su, fi, mo)), hm, N))).2.1), .ref (q 13), .ref (q 14), .ref (q 15), .ref (q 16), .int (iZ 1), .int (iZ p), .ref (q 17), .ref (q 18)])), ((q 1), .inl (G.2 0, 60, .inl (iF vv))), ((q 6), .inl (G.2 0, 100, .inl (iF (itM (vv 2) (vv 1) (vv 0) (vF vv) 600 (iniM p s e (((rm, P, S, E, T, U), (ie, my, su, fi, mo)), hm, N))).1.1.2.1))), ((q 7), .inl (G.2 1, 100, .inr (.inl (lF (itM (vv 2) (vv 1) (vv 0) (vF vv) 600 (iniM p s e (((rm, P, S, E, T, U), (ie, my, su, fi, mo)), hm, N))).1.1.2.2.2.2.1)))), ((q 8), .inl (G.2 0, 100, .inl (iF (itM (vv 2) (vv 1) (vv 0) (vF vv) 600 (iniM p s e (((rm, P, S, E, T, U), (ie, my, su, fi, mo)), hm, N))).1.1.2.2.2.1))), ((q 9), .inl (G.2 0, 100, .inl (iF (itM (vv 2) (vv 1) (vv 0) (vF vv) 600 (iniM p s e (((rm, P, S, E, T, U), (ie, my, su, fi, mo)), hm, N))).1.1.2.2.1))), ((q 10), .inl (G.2 2, 100, .inl (iF (itM (vv 2) (vv 1) (vv 0) (vF vv) 600 (iniM p s e (((rm, P, S, E, T, U), (ie, my, su, fi, mo)), hm, N))).1.1.2.2.2.2.2))), ((q 11), .inl (G.2 1, 3000, .inr (.inl (lF (itM (vv 2) (vv 1) (vv 0) (vF vv) 600 (iniM p s e (((rm, P, S, E, T, U), (ie, my, su, fi, mo)), hm, N))).2.2)))), ((q 12), .inl (G.2 2, 600, .inl (iF (itM (vv 2) (vv 1) (vv 0) (vF vv) 600 (iniM p s e (((rm, P, S, E, T, U), (ie, my, su, fi, mo)), hm, N))).1.2.1))), ((q 13), .inl (G.2 0, 12, .inl (iF (itM (vv 2) (vv 1) (vv 0) (vF vv) 600 (iniM p s e (((rm, P, S, E, T, U), (ie, my, su, fi, mo)), hm, N))).1.2.2.1))), ((q 14), .inl (G.2 1, 12, .inr (.inl (lF (itM (vv 2) (vv 1) (vv 0) (vF vv) 600 (iniM p s e (((rm, P, S, E, T, U), (ie, my, su, fi, mo)), hm, N))).1.2.2.2.1)))), ((q 15), .inl (G.2 1, 12, .inr (.inl (lF (itM (vv 2) (vv 1) (vv 0) (vF vv) 600 (iniM p s e (((rm, P, S, E, T, U), (ie, my, su, fi, mo)), hm, N))).1.2.2.2.2.1)))), ((q 16), .inl (G.2 0, 12, .inl (iF (itM (vv 2) (vv 1) (vv 0) (vF vv) 600 (iniM p s e (((rm, P, S, E, T, U), (ie, my, su, fi, mo)), hm, N))).1.2.2.2.2.2)))]) := by
  refine Ctr.go (own := RX12) (nm := "shoot") (by decide +kernel) rfl rfl [some (.ref x), some (.int (iZ p)), some (.int (iZ s)), some (.int (iZ e)), none] 1 rfl rfl (Nat.le_of_ble_eq_true rfl) ?_
  intro K h hF
  have hF0 : FM 0 (iniM p s e (((rm, P, S, E, T, U), (ie, my, su, fi, mo)), hm, N)) := iniM_I hA.1 hA.2.1 hA.2.2
  refine V_iload_n h (dk dd_X12_shoot_0 0 rfl) rfl get1 ?_
  refine V_callS h st1 ci_X12_165 pk_n rfl (m_X12_isPlace l G _ (by omega)) rfl rfl (Nat.le_of_ble_eq_true rfl) (by decide) ⟨rfl, rfl, rfl⟩ (dk dd_X12_shoot_0 1 rfl) sk1 sm_n ?_
  refine V_ifz_eq (tgt := 24) h (dk dd_X12_shoot_0 2 rfl) rfl (fun c4 => ?_) (fun c4 => ?_)
  · exfalso; first | exact c4 hA.1 | exact c11 hA.2.1 | omega
  · refine V_iload_n h (dk dd_X12_shoot_0 3 rfl) rfl get2 ?_
    refine V_callS h st1 ci_X12_147 pk_n rfl (m_X12_isStep l G _ (by omega)) rfl rfl (Nat.le_of_ble_eq_true rfl) (by decide) ⟨rfl, rfl, rfl⟩ (dk dd_X12_shoot_0 4 rfl) sk1 sm_n ?_
    refine V_ifz_eq (tgt := 24) h (dk dd_X12_shoot_0 5 rfl) rfl (fun c11 => ?_) (fun c11 => ?_)
    · exfalso; first | exact c4 hA.1 | exact c11 hA.2.1 | omega
    · refine V_iload_n h (dk dd_X12_shoot_0 6 rfl) rfl get3 ?_
      refine V_iconst h (dk dd_X12_shoot_0 7 rfl) ?_
      refine V_ldc h q4_142 (dk dd_X12_shoot_0 8 rfl) ?_
      refine V_callS h st3 ci_X12_70 pk_n rfl (m_X12_in l G _ _ _ (by omega) (by omega) (by omega)) rfl rfl (Nat.le_of_ble_eq_true rfl) (by decide) ⟨rfl, rfl, rfl⟩ (dk dd_X12_shoot_0 9 rfl) sk1 sm_n ?_
      refine V_ifz_ne (tgt := 27) h (dk dd_X12_shoot_0 10 rfl) rfl (fun c21 => ?_) (fun c21 => ?_)
      · refine V_aload_n h (dk dd_X12_shoot_0 13 rfl) rfl get0 ?_
        refine V_iconst h (dk dd_X12_shoot_0 14 rfl) ?_
        refine V_put h pf_X12_194 0 get0 (Nat.le_of_ble_eq_true rfl) set23 set0 rfl rfl (dk dd_X12_shoot_0 15 rfl) ?_
        refine V_aload_n h (dk dd_X12_shoot_0 16 rfl) rfl get0 ?_
        refine V_iload_n h (dk dd_X12_shoot_0 17 rfl) rfl get1 ?_
        refine V_put h pf_X12_197 0 get0 (Nat.le_of_ble_eq_true rfl) set24 set0 rfl rfl (dk dd_X12_shoot_0 18 rfl) ?_
        refine V_aload_n h (dk dd_X12_shoot_0 19 rfl) rfl get0 ?_
        refine V_iconst h (dk dd_X12_shoot_0 20 rfl) ?_
        refine V_put h pf_X12_169 0 get0 (Nat.le_of_ble_eq_true rfl) set15 set0 rfl rfl (dk dd_X12_shoot_0 21 rfl) ?_
        refine V_aload_n h (dk dd_X12_shoot_0 22 rfl) rfl get0 ?_
        refine V_iconst h (dk dd_X12_shoot_0 23 rfl) ?_
        refine V_put h pf_X12_172 0 get0 (Nat.le_of_ble_eq_true rfl) set18 set0 rfl rfl (dk dd_X12_shoot_0 24 rfl) ?_
        refine V_iconst h (dk dd_X12_shoot_0 25 rfl) ?_
        refine V_istore h (dk dd_X12_shoot_0 26 rfl) (Nat.le_of_ble_eq_true rfl) rfl set4 ?_
        have L50 : ∀ (fu : Nat) (i : Int), 0 ≤ i ∧ i ≤ 12 → (12 - i).toNat < fu → V K (0, 0) 50 [some (.ref x), some (.int (iZ p)), some (.int (iZ s)), some (.int (iZ e)), some (.int (iZ i))] [] [(x, .inr (11, [.ref (q 1), .ref (q 2), .int (iZ pm), .ref (q 3), .int (iZ ty), .int (iZ ap), .int (iZ fo), .int (iZ wr), .ref (q 4), .ref (q 5), .ref (q 6), .ref (q 7), .ref (q 8), .ref (q 9), .ref (q 10), .int (iZ 0), .ref (q 11), .ref (q 12), .int (iZ 0), .ref (q 13), .ref (q 14), .ref (q 15), .ref (q 16), .int (iZ 1), .int (iZ p), .ref (q 17), .ref (q 18)])), ((q 1), .inl (G.2 0, 60, .inl (iF vv))), ((q 6), .inl (G.2 0, 100, .inl (iF P))), ((q 7), .inl (G.2 1, 100, .inr (.inl (lF T)))), ((q 8), .inl (G.2 0, 100, .inl (iF E))), ((q 9), .inl (G.2 0, 100, .inl (iF S))), ((q 10), .inl (G.2 2, 100, .inl (iF U))), ((q 11), .inl (G.2 1, 3000, .inr (.inl (lF N)))), ((q 12), .inl (G.2 2, 600, .inl (iF ie))), ((q 13), .inl (G.2 0, 12, .inl (iF (clr0 my i)))), ((q 14), .inl (G.2 1, 12, .inr (.inl (lF (clr0 su i))))), ((q 15), .inl (G.2 1, 12, .inr (.inl (lF fi)))), ((q 16), .inl (G.2 0, 12, .inl (iF (clr0 mo i))))] := by
          intro fu
          induction fu with
          | zero => intro i _ hm; exact absurd hm (Nat.not_lt_zero _)
          | succ fu ih50 =>
            intro i hI50 hm50
            refine V_iload h (dk dd_X12_shoot_0 27 rfl) get4 ?_
            refine V_bipush h (dk dd_X12_shoot_0 28 rfl) (by decide) ?_
            refine V_icmp_ge (tgt := 87) h (dk dd_X12_shoot_0 29 rfl) rfl (by omega) (fun c54 => ?_) (fun c54 => ?_)
            · have e : i = 12 := by omega
              subst e
              refine V_aload_n h (dk dd_X12_shoot_0 47 rfl) rfl get0 ?_
              refine V_iload_n h (dk dd_X12_shoot_0 48 rfl) rfl get1 ?_
              refine V_lconst0 h (dk dd_X12_shoot_0 49 rfl) ?_
              refine V_iload_n h (dk dd_X12_shoot_1 0 rfl) rfl get2 ?_
              refine V_iload_n h (dk dd_X12_shoot_1 1 rfl) rfl get3 ?_
              refine V_callV h st5 ci_X12_180 (pk_c get0 (pk_c get2 (pk_c get3 (pk_c get4 (pk_c get5 (pk_c get6 pk_n)))))) rfl 0 get0 rfl (m_X12_begins l G _ _ _ _ _ _ _ _ _ _ _ _ _ _ _ _ _ _ _ _ (by omega)) rfl rfl (Nat.le_of_ble_eq_true rfl) (by decide) ⟨rfl, rfl, rfl⟩ (dk dd_X12_shoot_1 2 rfl) sk0 (sm_c set0 (sm_c set2 (sm_c set3 (sm_c set4 (sm_c set5 (sm_c set6 sm_n)))))) ?_
              rw [show (0 : Int) + 1 = 1 from rfl]
              refine V_aload_n h (dk dd_X12_shoot_1 3 rfl) rfl get0 ?_
              refine V_callV h st1 ci_X12_200 (pk_c get0 (pk_c get3 (pk_c get5 (pk_c get6 pk_n)))) rfl 0 get0 rfl (m_X12_next l G _ _ _ _ _ _ _ _ _ _ _ _ _ _ (by omega) (fun j a b => (hF0.1.2.2 j a b).2.1.2) (fun j a b => ⟨(hF0.1.2.2 j a b).2.2.2.1.1, Int.le_trans (hF0.1.2.2 j a b).2.2.2.1.2 (by decide)⟩) (fun j a b => (hF0.1.2.2 j a b).2.2.2.2)) rfl rfl (Nat.le_of_ble_eq_true rfl) (by decide) ⟨rfl, rfl, rfl⟩ (dk dd_X12_shoot_1 4 rfl) sk1 (sm_c set0 (sm_c set3 (sm_c set5 (sm_c set6 sm_n)))) ?_
              refine V_istore h (dk dd_X12_shoot_1 5 rfl) (Nat.le_of_ble_eq_true rfl) rfl set4 ?_
              have L101 : ∀ (fu : Nat) (k : Nat) (m1 : Int) (P1 S1 E1 T1 U1 ie1 my1 su1 fi1 mo1 : Int → Int) (h1 : Int) (N1 : Int → Int), k ≤ 600 ∧ (((m1, P1, S1, E1, T1, U1), (ie1, my1, su1, fi1, mo1)), h1, N1) = itM (vv 2) (vv 1) (vv 0) (vF vv) k (iniM p s e (((rm, P, S, E, T, U), (ie, my, su, fi, mo)), hm, N)) ∧ FM (k : Int) (((m1, P1, S1, E1, T1, U1), (ie1, my1, su1, fi1, mo1)), h1, N1) → (600 - k) < fu → V K (0, 0) 101 [some (.ref x), some (.int (iZ p)), some (.int (iZ s)), some (.int (iZ e)), some (.int (iZ (nvM (erlF (tcF T1 S1) U1 m1.toNat))))] [] [(x, .inr (11, [.ref (q 1), .ref (q 2), .int (iZ pm), .ref (q 3), .int (iZ ty), .int (iZ ap), .int (iZ fo), .int (iZ wr), .ref (q 4), .ref (q 5), .ref (q 6), .ref (q 7), .ref (q 8), .ref (q 9), .ref (q 10), .int (iZ m1), .ref (q 11), .ref (q 12), .int (iZ h1), .ref (q 13), .ref (q 14), .ref (q 15), .ref (q 16), .int (iZ 1), .int (iZ p), .ref (q 17), .ref (q 18)])), ((q 1), .inl (G.2 0, 60, .inl (iF vv))), ((q 6), .inl (G.2 0, 100, .inl (iF P1))), ((q 7), .inl (G.2 1, 100, .inr (.inl (lF T1)))), ((q 8), .inl (G.2 0, 100, .inl (iF E1))), ((q 9), .inl (G.2 0, 100, .inl (iF S1))), ((q 10), .inl (G.2 2, 100, .inl (iF U1))), ((q 11), .inl (G.2 1, 3000, .inr (.inl (lF N1)))), ((q 12), .inl (G.2 2, 600, .inl (iF ie1))), ((q 13), .inl (G.2 0, 12, .inl (iF my1))), ((q 14), .inl (G.2 1, 12, .inr (.inl (lF su1)))), ((q 15), .inl (G.2 1, 12, .inr (.inl (lF fi1)))), ((q 16), .inl (G.2 0, 12, .inl (iF mo1)))] := by
                intro fu
                induction fu with
                | zero => intro k m1 P1 S1 E1 T1 U1 ie1 my1 su1 fi1 mo1 h1 N1 _ hm; exact absurd hm (Nat.not_lt_zero _)
                | succ fu ih101 =>
                  intro k m1 P1 S1 E1 T1 U1 ie1 my1 su1 fi1 mo1 h1 N1 hI101 hm101
                  obtain ⟨hk, hx, hFm⟩ := hI101
                  have hF9 := hFm
                  obtain ⟨j1, j2, j3⟩ := hF9
                  dsimp only at j1 j2 j3
                  have k1 := j1.1
                  have k2 := j1.2.1
                  dsimp only at k1 k2
                  have hR := erl_R (tcF T1 S1) U1 m1.toNat
                  have hV : (nvM (erlF (tcF T1 S1) U1 m1.toNat) = -100009 ∧ erlF (tcF T1 S1) U1 m1.toNat = -1) ∨ (nvM (erlF (tcF T1 S1) U1 m1.toNat) = erlF (tcF T1 S1) U1 m1.toNat ∧ 0 ≤ erlF (tcF T1 S1) U1 m1.toNat) := by unfold nvM; split <;> omega
                  refine V_iload h (dk dd_X12_shoot_1 6 rfl) get4 ?_
                  refine V_if_lt (tgt := 131) h (dk dd_X12_shoot_1 7 rfl) rfl (by omega) (fun c103 => ?_) (fun c103 => ?_)
                  · refine V_aload_n h (dk dd_X12_shoot_1 19 rfl) rfl get0 ?_
                    refine V_get h fl_X12_172 0 get0 get18 (dk dd_X12_shoot_1 20 rfl) ?_
                    refine V_iret h hF (dk dd_X12_shoot_1 21 rfl) ⟨Nat.le_of_ble_eq_true rfl, Nat.le_of_ble_eq_true rfl⟩ ?_
                    have hfin : itM (vv 2) (vv 1) (vv 0) (vF vv) 600 (iniM p s e (((rm, P, S, E, T, U), (ie, my, su, fi, mo)), hm, N)) = (((m1, P1, S1, E1, T1, U1), (ie1, my1, su1, fi1, mo1)), h1, N1) := by
                      rw [hx]
                      first
                      | (have e := itM_dead (thr := vv 2) (lo := vv 1) (n := vv 0) (f := vF vv) (y := (iniM p s e (((rm, P, S, E, T, U), (ie, my, su, fi, mo)), hm, N))) (k := k) (by rw [← hx]; show erlF (tcF T1 S1) U1 m1.toNat = -1; omega) (600 - k); rw [show k + (600 - k) = 600 by omega] at e; exact e)
                      | rw [show k = 600 by omega]
                    rw [hfin]
                    exact det_i rfl rfl
                  · refine V_aload_n h (dk dd_X12_shoot_1 8 rfl) rfl get0 ?_
                    refine V_get h fl_X12_172 0 get0 get18 (dk dd_X12_shoot_1 9 rfl) ?_
                    refine V_sipush h (dk dd_X12_shoot_1 10 rfl) (by decide) ?_
                    refine V_icmp_ge (tgt := 131) h (dk dd_X12_shoot_1 11 rfl) rfl (by omega) (fun c113 => ?_) (fun c113 => ?_)
                    · refine V_aload_n h (dk dd_X12_shoot_1 19 rfl) rfl get0 ?_
                      refine V_get h fl_X12_172 0 get0 get18 (dk dd_X12_shoot_1 20 rfl) ?_
                      refine V_iret h hF (dk dd_X12_shoot_1 21 rfl) ⟨Nat.le_of_ble_eq_true rfl, Nat.le_of_ble_eq_true rfl⟩ ?_
                      have hfin : itM (vv 2) (vv 1) (vv 0) (vF vv) 600 (iniM p s e (((rm, P, S, E, T, U), (ie, my, su, fi, mo)), hm, N)) = (((m1, P1, S1, E1, T1, U1), (ie1, my1, su1, fi1, mo1)), h1, N1) := by
                        rw [hx]
                        first
                        | (have e := itM_dead (thr := vv 2) (lo := vv 1) (n := vv 0) (f := vF vv) (y := (iniM p s e (((rm, P, S, E, T, U), (ie, my, su, fi, mo)), hm, N))) (k := k) (by rw [← hx]; show erlF (tcF T1 S1) U1 m1.toNat = -1; omega) (600 - k); rw [show k + (600 - k) = 600 by omega] at e; exact e)
                        | rw [show k = 600 by omega]
                      rw [hfin]
                      exact det_i rfl rfl
                    · obtain ⟨hv1, hv2⟩ := hV.resolve_left (fun q => by omega)
                      rw [hv1]
                      have hr9 : 0 ≤ erlF (tcF T1 S1) U1 m1.toNat ∧ erlF (tcF T1 S1) U1 m1.toNat < m1 := by omega
                      have hG := goM_I hW hFm (by omega) hr9
                      refine V_aload_n h (dk dd_X12_shoot_1 12 rfl) rfl get0 ?_
                      refine V_iload h (dk dd_X12_shoot_1 13 rfl) get4 ?_
                      refine V_callV h st2 ci_X12_203 (pk_c get0 (pk_c get1 (pk_c get2 (pk_c get3 (pk_c get4 (pk_c get5 (pk_c get6 (pk_c get7 (pk_c get8 (pk_c get9 (pk_c get10 (pk_c get11 (pk_c get12 pk_n))))))))))))) rfl 0 get0 rfl (m_X12_goes l G _ _ _ _ _ _ _ _ _ _ _ _ _ _ _ _ _ _ _ _ _ _ _ _ _ _ (j1) (j2) (by omega) (by omega) (by omega) (by omega) (hW)) rfl rfl (Nat.le_of_ble_eq_true rfl) (by decide) ⟨rfl, rfl, rfl⟩ (dk dd_X12_shoot_1 14 rfl) sk0 (sm_c set0 (sm_c set1 (sm_c set2 (sm_c set3 (sm_c set4 (sm_c set5 (sm_c set6 (sm_c set7 (sm_c set8 (sm_c set9 (sm_c set10 (sm_c set11 (sm_c set12 sm_n))))))))))))) ?_
                      refine V_aload_n h (dk dd_X12_shoot_1 15 rfl) rfl get0 ?_
                      refine V_callV h st1 ci_X12_200 (pk_c get0 (pk_c get3 (pk_c get5 (pk_c get6 pk_n)))) rfl 0 get0 rfl (m_X12_next l G _ _ _ _ _ _ _ _ _ _ _ _ _ _ (⟨hG.1.1, hG.1.2.1⟩) (fun j a b => (hG.1.2.2 j a b).2.1.2) (fun j a b => ⟨(hG.1.2.2 j a b).2.2.2.1.1, Int.le_trans (hG.1.2.2 j a b).2.2.2.1.2 (by omega)⟩) (fun j a b => (hG.1.2.2 j a b).2.2.2.2)) rfl rfl (Nat.le_of_ble_eq_true rfl) (by decide) ⟨rfl, rfl, rfl⟩ (dk dd_X12_shoot_1 16 rfl) sk1 (sm_c set0 (sm_c set3 (sm_c set5 (sm_c set6 sm_n)))) ?_
                      refine V_istore h (dk dd_X12_shoot_1 17 rfl) (Nat.le_of_ble_eq_true rfl) rfl set4 ?_
                      refine V_goto (tgt := 101) h (dk dd_X12_shoot_1 18 rfl) rfl ?_
                      have hn : ¬ nxM (((m1, P1, S1, E1, T1, U1), (ie1, my1, su1, fi1, mo1)), h1, N1) = -1 := fun q => by have q2 : erlF (tcF T1 S1) U1 m1.toNat = -1 := q; omega
                      exact ih101 (k + 1) _ _ _ _ _ _ _ _ _ _ _ _ _ ⟨by omega, by rw [itM_s (by rw [← hx]; exact hn), ← hx]; rfl, hG⟩ (by omega)
              exact L101 _ 0 1 _ _ _ _ _ _ _ _ _ _ 0 N ⟨by omega, rfl, hF0⟩ (Nat.lt_succ_self _)
            · refine V_aload_n h (dk dd_X12_shoot_0 30 rfl) rfl get0 ?_
              refine V_get h fl_X12_48 0 get0 get19 (dk dd_X12_shoot_0 31 rfl) ?_
              refine V_iload h (dk dd_X12_shoot_0 32 rfl) get4 ?_
              refine V_iconst h (dk dd_X12_shoot_0 33 rfl) ?_
              refine V_iast h 9 get9 (by omega) set9 (dk dd_X12_shoot_0 34 rfl) ?_
              rw [clr0_s hI50.1]
              refine V_aload_n h (dk dd_X12_shoot_0 35 rfl) rfl get0 ?_
              refine V_get h fl_X12_51 0 get0 get20 (dk dd_X12_shoot_0 36 rfl) ?_
              refine V_iload h (dk dd_X12_shoot_0 37 rfl) get4 ?_
              refine V_lconst0 h (dk dd_X12_shoot_0 38 rfl) ?_
              refine V_last h 10 get10 (by omega) set10 (dk dd_X12_shoot_0 39 rfl) ?_
              rw [clr0_s hI50.1]
              refine V_aload_n h (dk dd_X12_shoot_0 40 rfl) rfl get0 ?_
              refine V_get h fl_X12_57 0 get0 get22 (dk dd_X12_shoot_0 41 rfl) ?_
              refine V_iload h (dk dd_X12_shoot_0 42 rfl) get4 ?_
              refine V_iconst h (dk dd_X12_shoot_0 43 rfl) ?_
              refine V_iast h 12 get12 (by omega) set12 (dk dd_X12_shoot_0 44 rfl) ?_
              rw [clr0_s hI50.1]
              refine V_iinc h (dk dd_X12_shoot_0 45 rfl) get4 (Nat.le_of_ble_eq_true rfl) rfl set4 ?_
              refine V_goto (tgt := 50) h (dk dd_X12_shoot_0 46 rfl) rfl ?_
              exact ih50 _ (by omega) (by omega)
        have e0 := L50 _ 0 (by omega) (Nat.lt_succ_self _)
        rw [clr0_0, clr0_0, clr0_0] at e0
        exact e0
      · exfalso; first | exact c4 hA.1 | exact c11 hA.2.1 | omega

