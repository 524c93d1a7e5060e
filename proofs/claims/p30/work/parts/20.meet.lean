/-! Shot.meet -/
set_option maxHeartbeats 4000000 in
set_option maxRecDepth 100000 in
theorem m_X8_meet (l : Launch) (G : GT) (sh rr lo mk ea pt : Nat) (ra : Int → Nat) (m : Int) (P S E T U : Int → Int) (w pw aw : Nat) (n lo2 z : Int) (f : Int → Int) (lb lc : Nat) (nh ec es : Int) (Nn Ec : Int → Int) (eb : Nat) (A : Int → Int) (mb pb : Nat) (c pc : Int) (wd Cn : Int → Int) (r tb hb : Int) (hI : RI tb (m, P, S, E, T, U)) (hr : 0 ≤ r ∧ r < m) (htb : 0 ≤ tb ∧ tb ≤ 2000000000) (hH : HI2 hb (A, ec, Ec)) (hhb : 4000000000 ≤ hb ∧ hb ≤ 100000000000) (hn : 0 ≤ n ∧ n ≤ 12) (hlo : 0 ≤ lo2 ∧ lo2 ≤ 999) (hz : R32 z) (hp : ∀ j, 0 ≤ j → j < n → PartOK f j) (hh : 0 ≤ nh ∧ nh < 600) (hpc : 0 ≤ pc ∧ pc ≤ 201) : Ctr l G yX8_meet cX8_meet 4 none (rmO 4 0 0 99) [.ref sh, .ref w, .ref (ra r)] ((sh, .inr (7, [.ref rr, .ref lo, .ref mk, .ref ea, .ref pt, .int (iZ m)])) :: (rr, .inl (G.2 4, 100, .inr (.inr (.inr (.inr (rayA ra)))))) :: (lo, .inr (2, [.ref lb, .ref lc, .int (iZ nh), .int (iZ ec), .long (lZ es)])) :: (lb, .inl (G.2 1, 3000, .inr (.inl (lF Nn)))) :: (lc, .inl (G.2 0, 600, .inl (iF Ec))) :: (mk, .inr (5, [.ref mb, .int (iZ c)])) :: (mb, .inl (G.2 1, 434, .inr (.inl (lF wd)))) :: (ea, .inr (0, [.ref eb])) :: (eb, .inl (G.2 1, 48, .inr (.inl (lF A)))) :: (pt, .inr (4, [.ref pb, .int (iZ pc)])) :: (pb, .inl (G.2 0, 201, .inl (iF Cn))) :: (w, .inr (9, [.ref pw, .int (iZ lo2), .int (iZ z)])) :: (pw, .inr (3, [.ref aw, .int (iZ n)])) :: (aw, .inl (G.2 0, 48, .inl (iF f))) :: raysW ra P S E T U) (Det none ((sh, .inr (7, [.ref rr, .ref lo, .ref mk, .ref ea, .ref pt, .int (iZ (endR z r (hitX z lo2 nh n r f ((m, P, S, E, T, U), A, ec, Ec)).1).1)])) :: (rr, .inl (G.2 4, 100, .inr (.inr (.inr (.inr (rayA ra)))))) :: (lo, .inr (2, [.ref lb, .ref lc, .int (iZ (nh + 1)), .int (iZ (hitX z lo2 nh n r f ((m, P, S, E, T, U), A, ec, Ec)).2.2.1), .long (lZ (es + E r))])) :: (lb, .inl (G.2 1, 3000, .inr (.inl (lF (noteF Nn nh r (newP (m, P, S, E, T, U) r) (T r) (E r) (S r)))))) :: (lc, .inl (G.2 0, 600, .inl (iF (hitX z lo2 nh n r f ((m, P, S, E, T, U), A, ec, Ec)).2.2.2))) :: (mk, .inr (5, [.ref mb, .int (iZ (mkC wd (newP (m, P, S, E, T, U) r) c))])) :: (mb, .inl (G.2 1, 434, .inr (.inl (lF (mkF wd (newP (m, P, S, E, T, U) r)))))) :: (ea, .inr (0, [.ref eb])) :: (eb, .inl (G.2 1, 48, .inr (.inl (lF (hitX z lo2 nh n r f ((m, P, S, E, T, U), A, ec, Ec)).2.1)))) :: (pt, .inr (4, [.ref pb, .int (iZ (pthC r pc))])) :: (pb, .inl (G.2 0, 201, .inl (iF (pthF r Cn pc (newP (m, P, S, E, T, U) r))))) :: (w, .inr (9, [.ref pw, .int (iZ lo2), .int (iZ z)])) :: (pw, .inr (3, [.ref aw, .int (iZ n)])) :: (aw, .inl (G.2 0, 48, .inl (iF f))) :: raysW ra (endR z r (hitX z lo2 nh n r f ((m, P, S, E, T, U), A, ec, Ec)).1).2.1 (endR z r (hitX z lo2 nh n r f ((m, P, S, E, T, U), A, ec, Ec)).1).2.2.1 (endR z r (hitX z lo2 nh n r f ((m, P, S, E, T, U), A, ec, Ec)).1).2.2.2.1 (endR z r (hitX z lo2 nh n r f ((m, P, S, E, T, U), A, ec, Ec)).1).2.2.2.2.1 (endR z r (hitX z lo2 nh n r f ((m, P, S, E, T, U), A, ec, Ec)).1).2.2.2.2.2)) := by
  refine Ctr.go (own := RX8) (nm := "meet") (by decide +kernel) rfl rfl [some (.ref sh), some (.ref w), some (.ref (ra r)), none] 1 rfl rfl (Nat.le_of_ble_eq_true rfl) ?_
  intro K h hF
  have q0 := RI_one hI hr
  have hm := hI.2.1
  dsimp only at hm
  obtain ⟨p1, hp1⟩ : ∃ p1, p1 = newP (m, P, S, E, T, U) r := ⟨_, rfl⟩
  have hp1b : 0 ≤ p1 ∧ p1 < 27720 := by rw [hp1]; unfold newP; dsimp only; omega
  have hp2 : p1 = (P r + S r) % 27720 := hp1
  have hI0 := hit0_I (RI_mono hI (show tb ≤ tb + 2000000 by omega)) hr hlo
  refine V_aload_n h (dk dd_X8_meet_0 0 rfl) rfl get2 ?_
  refine V_aload_n h (dk dd_X8_meet_0 1 rfl) rfl get2 ?_
  refine V_get h fl_X8_89 (r.toNat + 14) (gp14 (ray_get (⟨hr.1, by omega⟩))) get1 (dk dd_X8_meet_0 2 rfl) ?_
  refine V_aload_n h (dk dd_X8_meet_0 3 rfl) rfl get2 ?_
  refine V_get h fl_X8_92 (r.toNat + 14) (gp14 (ray_get (⟨hr.1, by omega⟩))) get2 (dk dd_X8_meet_0 4 rfl) ?_
  refine V_callS h st2 ci_X8_95 pk_n rfl (m_X0_placeAfter l G _ _ (by omega) (by omega)) rfl rfl (Nat.le_of_ble_eq_true rfl) (by decide) ⟨rfl, rfl, rfl⟩ (dk dd_X8_meet_0 5 rfl) sk1 sm_n ?_
  rw [← hp2]
  refine V_put h pf_X8_89 (r.toNat + 14) (gp14 (ray_get (⟨hr.1, by omega⟩))) (Nat.le_of_ble_eq_true rfl) set1 (sp14 (ray_set1 (⟨hr.1, by omega⟩))) rfl rfl (dk dd_X8_meet_0 6 rfl) ?_
  refine V_aload_n h (dk dd_X8_meet_0 7 rfl) rfl get0 ?_
  refine V_get h fl_X8_20 0 get0 get1 (dk dd_X8_meet_0 8 rfl) ?_
  refine V_aload_n h (dk dd_X8_meet_0 9 rfl) rfl get2 ?_
  refine V_callV h st2 ci_X8_99 (pk_c get2 (pk_c get3 (pk_c get4 (pk_c (gp14 (ray_get (⟨hr.1, by omega⟩))) pk_n)))) (nd_c (by simp <;> omega) (nd_c (by simp <;> omega) (nd_c (by simp <;> omega) (nd_c (by simp <;> omega) nd_n)))) 2 get2 rfl (m_X3_note l G _ _ _ _ _ _ _ _ _ _ _ _ _ _ _ (by omega) (by omega) (by rw [zup_s]; omega) (by omega) (by omega)) rfl rfl (Nat.le_of_ble_eq_true rfl) (by decide) ⟨rfl, rfl, rfl⟩ (dk dd_X8_meet_0 10 rfl) sk0 (sm_c set2 (sm_c set3 (sm_c set4 (sm_c (sp14 (ray_set0 (⟨hr.1, by omega⟩))) sm_n)))) ?_
  simp only [zup_s]
  refine V_aload_n h (dk dd_X8_meet_0 11 rfl) rfl get0 ?_
  refine V_get h fl_X8_27 0 get0 get2 (dk dd_X8_meet_0 12 rfl) ?_
  refine V_aload_n h (dk dd_X8_meet_0 13 rfl) rfl get2 ?_
  refine V_get h fl_X8_89 (r.toNat + 14) (gp14 (ray_get (⟨hr.1, by omega⟩))) get1 (dk dd_X8_meet_0 14 rfl) ?_
  simp only [zup_s]
  refine V_callV h st2 ci_X8_103 (pk_c get5 (pk_c get6 pk_n)) rfl 5 get5 rfl (m_X6_mark l G _ _ _ _ _ (by omega)) rfl rfl (Nat.le_of_ble_eq_true rfl) (by decide) ⟨rfl, rfl, rfl⟩ (dk dd_X8_meet_0 15 rfl) sk0 (sm_c set5 (sm_c set6 sm_n)) ?_
  have J52 : True → V K (0, 0) 52 [some (.ref sh), some (.ref w), some (.ref (ra r)), none] [] ((sh, .inr (7, [.ref rr, .ref lo, .ref mk, .ref ea, .ref pt, .int (iZ m)])) :: (rr, .inl (G.2 4, 100, .inr (.inr (.inr (.inr (rayA ra)))))) :: (lo, .inr (2, [.ref lb, .ref lc, .int (iZ (nh + 1)), .int (iZ ec), .long (lZ (es + E r))])) :: (lb, .inl (G.2 1, 3000, .inr (.inl (lF (noteF Nn nh r p1 (T r) (E r) (S r)))))) :: (lc, .inl (G.2 0, 600, .inl (iF Ec))) :: (mk, .inr (5, [.ref mb, .int (iZ (mkC wd p1 c))])) :: (mb, .inl (G.2 1, 434, .inr (.inl (lF (mkF wd p1))))) :: (ea, .inr (0, [.ref eb])) :: (eb, .inl (G.2 1, 48, .inr (.inl (lF A)))) :: (pt, .inr (4, [.ref pb, .int (iZ (pthC r pc))])) :: (pb, .inl (G.2 0, 201, .inl (iF (pthF r Cn pc p1)))) :: (w, .inr (9, [.ref pw, .int (iZ lo2), .int (iZ z)])) :: (pw, .inr (3, [.ref aw, .int (iZ n)])) :: (aw, .inl (G.2 0, 48, .inl (iF f))) :: raysW ra (zup P r p1) S E T U) := by
    intro  hJ52
    refine V_aload_n h (dk dd_X8_meet_0 24 rfl) rfl get2 ?_
    refine V_aload_n h (dk dd_X8_meet_0 25 rfl) rfl get1 ?_
    refine V_get h fl_X8_112 11 get11 get1 (dk dd_X8_meet_0 26 rfl) ?_
    refine V_callV h st2 ci_X8_117 (pk_c (gp14 (ray_get (⟨hr.1, by omega⟩))) pk_n) (nd_c (by simp <;> omega) nd_n) (r.toNat + 14) (gp14 (ray_get (⟨hr.1, by omega⟩))) rfl (m_X7_lose l G _ _ _ _ _ _ _ _ (by omega) (by omega)) rfl rfl (Nat.le_of_ble_eq_true rfl) (by decide) ⟨rfl, rfl, rfl⟩ (dk dd_X8_meet_0 27 rfl) sk0 (sm_c (sp14 (ray_set3 (⟨hr.1, by omega⟩))) sm_n) ?_
    refine V_iconst h (dk dd_X8_meet_0 28 rfl) ?_
    refine V_istore_n h (dk dd_X8_meet_0 29 rfl) rfl (Nat.le_of_ble_eq_true rfl) rfl set3 ?_
    have L62 : ∀ (fu : Nat) (i m1 : Int) (P1 S1 E1 T1 U1 A1 : Int → Int) (ec1 : Int) (Ec1 : Int → Int), 0 ≤ i ∧ i ≤ n ∧ ((m1, P1, S1, E1, T1, U1), A1, ec1, Ec1) = partsX z (nh + 1) r f i.toNat (hit0 lo2 r (m, P, S, E, T, U), A, ec, Ec) → (n - i).toNat < fu → V K (0, 0) 62 [some (.ref sh), some (.ref w), some (.ref (ra r)), some (.int (iZ i))] [] ((sh, .inr (7, [.ref rr, .ref lo, .ref mk, .ref ea, .ref pt, .int (iZ m1)])) :: (rr, .inl (G.2 4, 100, .inr (.inr (.inr (.inr (rayA ra)))))) :: (lo, .inr (2, [.ref lb, .ref lc, .int (iZ (nh + 1)), .int (iZ ec1), .long (lZ (es + E r))])) :: (lb, .inl (G.2 1, 3000, .inr (.inl (lF (noteF Nn nh r p1 (T r) (E r) (S r)))))) :: (lc, .inl (G.2 0, 600, .inl (iF Ec1))) :: (mk, .inr (5, [.ref mb, .int (iZ (mkC wd p1 c))])) :: (mb, .inl (G.2 1, 434, .inr (.inl (lF (mkF wd p1))))) :: (ea, .inr (0, [.ref eb])) :: (eb, .inl (G.2 1, 48, .inr (.inl (lF A1)))) :: (pt, .inr (4, [.ref pb, .int (iZ (pthC r pc))])) :: (pb, .inl (G.2 0, 201, .inl (iF (pthF r Cn pc p1)))) :: (w, .inr (9, [.ref pw, .int (iZ lo2), .int (iZ z)])) :: (pw, .inr (3, [.ref aw, .int (iZ n)])) :: (aw, .inl (G.2 0, 48, .inl (iF f))) :: raysW ra P1 S1 E1 T1 U1) := by
      intro fu
      induction fu with
      | zero => intro i m1 P1 S1 E1 T1 U1 A1 ec1 Ec1 _ hm; exact absurd hm (Nat.not_lt_zero _)
      | succ fu ih62 =>
        intro i m1 P1 S1 E1 T1 U1 A1 ec1 Ec1 hI62 hm62
        obtain ⟨hi0, hi1, hx⟩ := hI62
        have hJ := parts_I (thr := z) (h := nh + 1) (tb := tb + 2000000) (hb := hb) (t := T r) (p := p1) hp hn.2 (by omega) (by omega) (by omega) (by omega) hr.1 i.toNat (hit0 lo2 r (m, P, S, E, T, U), A, ec, Ec) (by omega) hI0 hH hr.2 (by rw [hp1]; exact zup_s) rfl
        rw [← hx] at hJ
        obtain ⟨j1, j2, j3, j4, j5⟩ := hJ
        dsimp only at j3 j4 j5
        have j6 := RI_one j1 ⟨hr.1, j3⟩
        have j7 := j1.2.1
        dsimp only at j7
        have j8 := j2.2.1
        dsimp only at j8
        refine V_iload_n h (dk dd_X8_meet_0 30 rfl) rfl get3 ?_
        refine V_aload_n h (dk dd_X8_meet_0 31 rfl) rfl get1 ?_
        refine V_get h fl_X8_120 11 get11 get0 (dk dd_X8_meet_0 32 rfl) ?_
        refine V_get h fl_X8_124 12 get12 get1 (dk dd_X8_meet_0 33 rfl) ?_
        refine V_icmp_ge (tgt := 108) h (dk dd_X8_meet_0 34 rfl) rfl (by omega) (fun c70 => ?_) (fun c70 => ?_)
        · have hfin : ((m1, P1, S1, E1, T1, U1), A1, ec1, Ec1) = partsX z (nh + 1) r f n.toNat (hit0 lo2 r (m, P, S, E, T, U), A, ec, Ec) := by rw [hx, show i = n by omega]
          refine V_aload_n h (dk dd_X8_meet_1 2 rfl) rfl get2 ?_
          refine V_get h fl_X8_137 (r.toNat + 14) (gp14 (ray_get (⟨hr.1, by omega⟩))) get3 (dk dd_X8_meet_1 3 rfl) ?_
          refine V_aload_n h (dk dd_X8_meet_1 4 rfl) rfl get1 ?_
          refine V_get h fl_X8_140 11 get11 get2 (dk dd_X8_meet_1 5 rfl) ?_
          refine V_icmp_ge (tgt := 124) h (dk dd_X8_meet_1 6 rfl) rfl (by omega) (fun c116 => ?_) (fun c116 => ?_)
          · refine V_aload_n h (dk dd_X8_meet_1 10 rfl) rfl get2 ?_
            refine V_get h fl_X8_81 (r.toNat + 14) (gp14 (ray_get (⟨hr.1, by omega⟩))) get5 (dk dd_X8_meet_1 11 rfl) ?_
            refine V_if_eq (tgt := 148) h (dk dd_X8_meet_1 12 rfl) rfl (by first | exact j6.2.2.2.2.R | decide) (fun c128 => ?_) (fun c128 => ?_)
            · refine V_vret h hF (dk dd_X8_meet_1 22 rfl) ⟨Nat.le_of_ble_eq_true rfl, Nat.le_of_ble_eq_true rfl⟩ ?_
              have e9 : (hitX z lo2 nh n r f ((m, P, S, E, T, U), A, ec, Ec)) = ((m1, P1, S1, E1, T1, U1), A1, ec1, Ec1) := hfin.symm
              refine det_v ?_
              rw [e9, ← hp1]
              first | rw [end_a (E := E1) (U := U1) (show z ≤ E1 r by omega) (by assumption)] | rw [end_b (E := E1) (show E1 r < z by omega)] | rw [end_c (E := E1) (U := U1) (show z ≤ E1 r by omega) (by assumption)]
            · refine V_aload_n h (dk dd_X8_meet_1 13 rfl) rfl get2 ?_
              refine V_dup h (dk dd_X8_meet_1 14 rfl) rfl ?_
              refine V_get h fl_X8_85 (r.toNat + 14) (gp14 (ray_get (⟨hr.1, by omega⟩))) get4 (dk dd_X8_meet_1 15 rfl) ?_
              refine V_aload_n h (dk dd_X8_meet_1 16 rfl) rfl get2 ?_
              refine V_get h fl_X8_92 (r.toNat + 14) (gp14 (ray_get (⟨hr.1, by omega⟩))) get2 (dk dd_X8_meet_1 17 rfl) ?_
              refine V_callS h st1 ci_X8_60 pk_n rfl (m_X0_chordTime l G _ (by omega)) rfl rfl (Nat.le_of_ble_eq_true rfl) (by decide) ⟨rfl, rfl, rfl⟩ (dk dd_X8_meet_1 18 rfl) sk1 sm_n ?_
              have hq := chord_R (s := S1 r) (by omega)
              refine V_i2l h (dk dd_X8_meet_1 19 rfl) (by omega) ?_
              refine V_ladd h (dk dd_X8_meet_1 20 rfl) ?_
              refine V_put h pf_X8_85 (r.toNat + 14) (gp14 (ray_get (⟨hr.1, by omega⟩))) (Nat.le_of_ble_eq_true rfl) set4 (sp14 (ray_set4 (⟨hr.1, by omega⟩))) rfl rfl (dk dd_X8_meet_1 21 rfl) ?_
              refine V_vret h hF (dk dd_X8_meet_1 22 rfl) ⟨Nat.le_of_ble_eq_true rfl, Nat.le_of_ble_eq_true rfl⟩ ?_
              have e9 : (hitX z lo2 nh n r f ((m, P, S, E, T, U), A, ec, Ec)) = ((m1, P1, S1, E1, T1, U1), A1, ec1, Ec1) := hfin.symm
              refine det_v ?_
              rw [e9, ← hp1]
              first | rw [end_a (E := E1) (U := U1) (show z ≤ E1 r by omega) (by assumption)] | rw [end_b (E := E1) (show E1 r < z by omega)] | rw [end_c (E := E1) (U := U1) (show z ≤ E1 r by omega) (by assumption)]
          · refine V_aload_n h (dk dd_X8_meet_1 7 rfl) rfl get2 ?_
            refine V_iconst h (dk dd_X8_meet_1 8 rfl) ?_
            refine V_put h pf_X8_81 (r.toNat + 14) (gp14 (ray_get (⟨hr.1, by omega⟩))) (Nat.le_of_ble_eq_true rfl) set5 (sp14 (ray_set5 (⟨hr.1, by omega⟩))) (Z01.n (by omega)) (Z01.f (by omega)) (dk dd_X8_meet_1 9 rfl) ?_
            refine V_aload_n h (dk dd_X8_meet_1 10 rfl) rfl get2 ?_
            refine V_get h fl_X8_81 (r.toNat + 14) (gp14 (ray_get (⟨hr.1, by omega⟩))) get5 (dk dd_X8_meet_1 11 rfl) ?_
            simp only [zup_s]
            refine V_if_eq (tgt := 148) h (dk dd_X8_meet_1 12 rfl) rfl (by first | exact j6.2.2.2.2.R | decide) (fun c128_2 => ?_) (fun c128_2 => ?_)
            · refine V_vret h hF (dk dd_X8_meet_1 22 rfl) ⟨Nat.le_of_ble_eq_true rfl, Nat.le_of_ble_eq_true rfl⟩ ?_
              have e9 : (hitX z lo2 nh n r f ((m, P, S, E, T, U), A, ec, Ec)) = ((m1, P1, S1, E1, T1, U1), A1, ec1, Ec1) := hfin.symm
              refine det_v ?_
              rw [e9, ← hp1]
              first | rw [end_a (E := E1) (U := U1) (show z ≤ E1 r by omega) (by assumption)] | rw [end_b (E := E1) (show E1 r < z by omega)] | rw [end_c (E := E1) (U := U1) (show z ≤ E1 r by omega) (by assumption)]
            · exact absurd rfl c128_2
        · refine V_aload_n h (dk dd_X8_meet_0 35 rfl) rfl get2 ?_
          refine V_get h fl_X8_81 (r.toNat + 14) (gp14 (ray_get (⟨hr.1, by omega⟩))) get5 (dk dd_X8_meet_0 36 rfl) ?_
          refine V_if_eq (tgt := 108) h (dk dd_X8_meet_0 37 rfl) rfl (j6.2.2.2.2.R) (fun c77 => ?_) (fun c77 => ?_)
          · have hfin := parts_dead2 hx c77 hi0 hi1
            refine V_aload_n h (dk dd_X8_meet_1 2 rfl) rfl get2 ?_
            refine V_get h fl_X8_137 (r.toNat + 14) (gp14 (ray_get (⟨hr.1, by omega⟩))) get3 (dk dd_X8_meet_1 3 rfl) ?_
            refine V_aload_n h (dk dd_X8_meet_1 4 rfl) rfl get1 ?_
            refine V_get h fl_X8_140 11 get11 get2 (dk dd_X8_meet_1 5 rfl) ?_
            refine V_icmp_ge (tgt := 124) h (dk dd_X8_meet_1 6 rfl) rfl (by omega) (fun c116_2 => ?_) (fun c116_2 => ?_)
            · refine V_aload_n h (dk dd_X8_meet_1 10 rfl) rfl get2 ?_
              refine V_get h fl_X8_81 (r.toNat + 14) (gp14 (ray_get (⟨hr.1, by omega⟩))) get5 (dk dd_X8_meet_1 11 rfl) ?_
              refine V_if_eq (tgt := 148) h (dk dd_X8_meet_1 12 rfl) rfl (by first | exact j6.2.2.2.2.R | decide) (fun c128_3 => ?_) (fun c128_3 => ?_)
              · refine V_vret h hF (dk dd_X8_meet_1 22 rfl) ⟨Nat.le_of_ble_eq_true rfl, Nat.le_of_ble_eq_true rfl⟩ ?_
                have e9 : (hitX z lo2 nh n r f ((m, P, S, E, T, U), A, ec, Ec)) = ((m1, P1, S1, E1, T1, U1), A1, ec1, Ec1) := hfin.symm
                refine det_v ?_
                rw [e9, ← hp1]
                first | rw [end_a (E := E1) (U := U1) (show z ≤ E1 r by omega) (by assumption)] | rw [end_b (E := E1) (show E1 r < z by omega)] | rw [end_c (E := E1) (U := U1) (show z ≤ E1 r by omega) (by assumption)]
              · refine V_aload_n h (dk dd_X8_meet_1 13 rfl) rfl get2 ?_
                refine V_dup h (dk dd_X8_meet_1 14 rfl) rfl ?_
                refine V_get h fl_X8_85 (r.toNat + 14) (gp14 (ray_get (⟨hr.1, by omega⟩))) get4 (dk dd_X8_meet_1 15 rfl) ?_
                refine V_aload_n h (dk dd_X8_meet_1 16 rfl) rfl get2 ?_
                refine V_get h fl_X8_92 (r.toNat + 14) (gp14 (ray_get (⟨hr.1, by omega⟩))) get2 (dk dd_X8_meet_1 17 rfl) ?_
                refine V_callS h st1 ci_X8_60 pk_n rfl (m_X0_chordTime l G _ (by omega)) rfl rfl (Nat.le_of_ble_eq_true rfl) (by decide) ⟨rfl, rfl, rfl⟩ (dk dd_X8_meet_1 18 rfl) sk1 sm_n ?_
                have hq := chord_R (s := S1 r) (by omega)
                refine V_i2l h (dk dd_X8_meet_1 19 rfl) (by omega) ?_
                refine V_ladd h (dk dd_X8_meet_1 20 rfl) ?_
                refine V_put h pf_X8_85 (r.toNat + 14) (gp14 (ray_get (⟨hr.1, by omega⟩))) (Nat.le_of_ble_eq_true rfl) set4 (sp14 (ray_set4 (⟨hr.1, by omega⟩))) rfl rfl (dk dd_X8_meet_1 21 rfl) ?_
                refine V_vret h hF (dk dd_X8_meet_1 22 rfl) ⟨Nat.le_of_ble_eq_true rfl, Nat.le_of_ble_eq_true rfl⟩ ?_
                have e9 : (hitX z lo2 nh n r f ((m, P, S, E, T, U), A, ec, Ec)) = ((m1, P1, S1, E1, T1, U1), A1, ec1, Ec1) := hfin.symm
                refine det_v ?_
                rw [e9, ← hp1]
                first | rw [end_a (E := E1) (U := U1) (show z ≤ E1 r by omega) (by assumption)] | rw [end_b (E := E1) (show E1 r < z by omega)] | rw [end_c (E := E1) (U := U1) (show z ≤ E1 r by omega) (by assumption)]
            · refine V_aload_n h (dk dd_X8_meet_1 7 rfl) rfl get2 ?_
              refine V_iconst h (dk dd_X8_meet_1 8 rfl) ?_
              refine V_put h pf_X8_81 (r.toNat + 14) (gp14 (ray_get (⟨hr.1, by omega⟩))) (Nat.le_of_ble_eq_true rfl) set5 (sp14 (ray_set5 (⟨hr.1, by omega⟩))) (Z01.n (by omega)) (Z01.f (by omega)) (dk dd_X8_meet_1 9 rfl) ?_
              refine V_aload_n h (dk dd_X8_meet_1 10 rfl) rfl get2 ?_
              refine V_get h fl_X8_81 (r.toNat + 14) (gp14 (ray_get (⟨hr.1, by omega⟩))) get5 (dk dd_X8_meet_1 11 rfl) ?_
              simp only [zup_s]
              refine V_if_eq (tgt := 148) h (dk dd_X8_meet_1 12 rfl) rfl (by first | exact j6.2.2.2.2.R | decide) (fun c128_4 => ?_) (fun c128_4 => ?_)
              · refine V_vret h hF (dk dd_X8_meet_1 22 rfl) ⟨Nat.le_of_ble_eq_true rfl, Nat.le_of_ble_eq_true rfl⟩ ?_
                have e9 : (hitX z lo2 nh n r f ((m, P, S, E, T, U), A, ec, Ec)) = ((m1, P1, S1, E1, T1, U1), A1, ec1, Ec1) := hfin.symm
                refine det_v ?_
                rw [e9, ← hp1]
                first | rw [end_a (E := E1) (U := U1) (show z ≤ E1 r by omega) (by assumption)] | rw [end_b (E := E1) (show E1 r < z by omega)] | rw [end_c (E := E1) (U := U1) (show z ≤ E1 r by omega) (by assumption)]
              · exact absurd rfl c128_4
          · refine V_aload_n h (dk dd_X8_meet_0 38 rfl) rfl get1 ?_
            refine V_get h fl_X8_120 11 get11 get0 (dk dd_X8_meet_0 39 rfl) ?_
            refine V_iload_n h (dk dd_X8_meet_0 40 rfl) rfl get3 ?_
            refine V_aload_n h (dk dd_X8_meet_0 41 rfl) rfl get2 ?_
            refine V_get h fl_X8_89 (r.toNat + 14) (gp14 (ray_get (⟨hr.1, by omega⟩))) get1 (dk dd_X8_meet_0 42 rfl) ?_
            refine V_callV h st3 ci_X8_129 (pk_c get12 (pk_c get13 pk_n)) rfl 12 get12 rfl (m_X4_covers l G _ _ _ _ _ _ (by omega) (by omega) (by omega) ((hp i hi0 (by omega)).2.1) ((hp i hi0 (by omega)).2.2.1)) rfl rfl (Nat.le_of_ble_eq_true rfl) (by decide) ⟨rfl, rfl, rfl⟩ (dk dd_X8_meet_0 43 rfl) sk1 (sm_c set12 (sm_c set13 sm_n)) ?_
            refine V_ifz_eq (tgt := 102) h (dk dd_X8_meet_0 44 rfl) rfl (fun c92 => ?_) (fun c92 => ?_)
            · refine V_iinc h (dk dd_X8_meet_1 0 rfl) get3 (Nat.le_of_ble_eq_true rfl) rfl set3 ?_
              refine V_goto (tgt := 62) h (dk dd_X8_meet_1 1 rfl) rfl ?_
              exact ih62 _ _ _ _ _ _ _ _ _ _ ⟨by omega, by omega, by rw [parts_s hi0, ← hx, step_n c77 c92]⟩ (by omega)
            · refine V_aload_n h (dk dd_X8_meet_0 45 rfl) rfl get0 ?_
              refine V_aload_n h (dk dd_X8_meet_0 46 rfl) rfl get1 ?_
              refine V_iload_n h (dk dd_X8_meet_0 47 rfl) rfl get3 ?_
              refine V_aload_n h (dk dd_X8_meet_0 48 rfl) rfl get2 ?_
              refine V_callV h st4 ci_X8_133 (pk_c get0 (pk_c get1 (pk_c get2 (pk_c get3 (pk_c get4 (pk_c get7 (pk_c get8 (pk_c get11 (pk_c get12 (pk_c get13 pt14)))))))))) (by decide +kernel) 0 get0 rfl (m_X8_act l G _ _ _ _ _ _ _ _ _ _ _ _ _ _ _ _ _ _ _ _ _ _ _ _ _ _ _ _ _ _ _ (by omega) (by omega) (by omega) (by omega) (by omega) (by omega) (by omega) (by omega) (fun j a b => by have := j2.2.2 j a b; dsimp only at this; exact ⟨by omega, by omega⟩) (fun j a b => by have := j2.1 j a b; dsimp only at this; exact ⟨by omega, by omega⟩) (by omega) (hp i hi0 (by omega))) rfl rfl (Nat.le_of_ble_eq_true rfl) (by decide) ⟨rfl, rfl, rfl⟩ (dk dd_X8_meet_0 49 rfl) sk0 (sm_c set0 (sm_c set1 (sm_c set2 (sm_c set3 (sm_c set4 (sm_c set7 (sm_c set8 (sm_c set11 (sm_c set12 (sm_c set13 stl14)))))))))) ?_
              refine V_iinc h (dk dd_X8_meet_1 0 rfl) get3 (Nat.le_of_ble_eq_true rfl) rfl set3 ?_
              refine V_goto (tgt := 62) h (dk dd_X8_meet_1 1 rfl) rfl ?_
              exact ih62 _ _ _ _ _ _ _ _ _ _ ⟨by omega, by omega, by rw [parts_s hi0, ← hx, step_y c77 c92]⟩ (by omega)
    exact L62 _ _ _ _ _ _ _ _ _ _ _ (⟨by omega, by omega, by rw [show (0 : Int).toNat = 0 from rfl]; unfold partsX hit0; rw [← hp1]⟩) (Nat.lt_succ_self _)
  refine V_aload_n h (dk dd_X8_meet_0 16 rfl) rfl get2 ?_
  refine V_get h fl_X8_106 (r.toNat + 14) (gp14 (ray_get (⟨hr.1, by omega⟩))) get0 (dk dd_X8_meet_0 17 rfl) ?_
  refine V_if_ne (tgt := 52) h (dk dd_X8_meet_0 18 rfl) rfl (by omega) (fun c38 => ?_) (fun c38 => ?_)
  · have e1 := J52 trivial
    rw [show pthC r pc = pc from if_neg c38, show pthF r Cn pc p1 = Cn from if_neg c38] at e1
    exact e1
  · refine V_aload_n h (dk dd_X8_meet_0 19 rfl) rfl get0 ?_
    refine V_get h fl_X8_41 0 get0 get4 (dk dd_X8_meet_0 20 rfl) ?_
    refine V_aload_n h (dk dd_X8_meet_0 21 rfl) rfl get2 ?_
    refine V_get h fl_X8_89 (r.toNat + 14) (gp14 (ray_get (⟨hr.1, by omega⟩))) get1 (dk dd_X8_meet_0 22 rfl) ?_
    simp only [zup_s]
    refine V_callV h st2 ci_X8_109 (pk_c get9 (pk_c get10 pk_n)) rfl 9 get9 rfl (m_X5_goTo l G _ _ _ _ _ (by omega)) rfl rfl (Nat.le_of_ble_eq_true rfl) (by decide) ⟨rfl, rfl, rfl⟩ (dk dd_X8_meet_0 23 rfl) sk0 (sm_c set9 (sm_c set10 sm_n)) ?_
    have e1 := J52 trivial
    rw [show pthC r pc = goC pc from if_pos c38, show pthF r Cn pc p1 = goF Cn pc p1 from if_pos c38] at e1
    exact e1

