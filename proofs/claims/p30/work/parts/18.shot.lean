/-! Shot: begin, earliest -/
set_option maxHeartbeats 4000000 in
set_option maxRecDepth 100000 in
theorem m_X8_begin (l : Launch) (G : GT) (sh rr lo mk ea pt : Nat) (ra : Int → Nat) (m : Int) (P S E T U : Int → Int) (p s e t : Int) (hm : 0 ≤ m ∧ m ≤ 100) : Ctr l G yX8_begin cX8_begin 6 none (rmO 1 0 0 25) [.ref sh, .int (iZ p), .int (iZ s), .int (iZ e), .long (lZ t)] ((sh, .inr (7, [.ref rr, .ref lo, .ref mk, .ref ea, .ref pt, .int (iZ m)])) :: (rr, .inl (G.2 4, 100, .inr (.inr (.inr (.inr (rayA ra)))))) :: raysW ra P S E T U) (Det none ((sh, .inr (7, [.ref rr, .ref lo, .ref mk, .ref ea, .ref pt, .int (iZ (bgM m))])) :: (rr, .inl (G.2 4, 100, .inr (.inr (.inr (.inr (rayA ra)))))) :: raysW ra (bgZ P m p) (bgZ S m s) (bgZ E m e) (bgZ T m t) (bgZ U m 1))) := by
  refine Ctr.go (own := RX8) (nm := "begin") (by decide +kernel) rfl rfl [some (.ref sh), some (.int (iZ p)), some (.int (iZ s)), some (.int (iZ e)), some (.long (lZ t)), none] 0 rfl rfl (Nat.le_of_ble_eq_true rfl) ?_
  intro K h hF
  refine V_aload_n h (dk dd_X8_begin_0 0 rfl) rfl get0 ?_
  refine V_get h fl_X8_56 0 get0 get5 (dk dd_X8_begin_0 1 rfl) ?_
  refine V_bipush h (dk dd_X8_begin_0 2 rfl) (by decide) ?_
  refine V_icmp_ge (tgt := 36) h (dk dd_X8_begin_0 3 rfl) rfl (by omega) (fun c6 => ?_) (fun c6 => ?_)
  · refine V_vret h hF (dk dd_X8_begin_0 20 rfl) ⟨Nat.le_of_ble_eq_true rfl, Nat.le_of_ble_eq_true rfl⟩ ?_
    first | exact det_v (by unfold bgM bgZ; simp only [if_neg (show ¬ m < 100 by omega)]) | exact det_v (by unfold bgM bgZ; simp only [if_pos (show m < 100 by omega)])
  · refine V_aload_n h (dk dd_X8_begin_0 4 rfl) rfl get0 ?_
    refine V_get h fl_X8_11 0 get0 get0 (dk dd_X8_begin_0 5 rfl) ?_
    refine V_aload_n h (dk dd_X8_begin_0 6 rfl) rfl get0 ?_
    refine V_get h fl_X8_56 0 get0 get5 (dk dd_X8_begin_0 7 rfl) ?_
    refine V_aald (b := (ra m)) h 1 4 get1 rfl (by omega) (rayA_at (by omega)) (dk dd_X8_begin_0 8 rfl) ?_
    refine V_iload_n h (dk dd_X8_begin_0 9 rfl) rfl get1 ?_
    refine V_iload_n h (dk dd_X8_begin_0 10 rfl) rfl get2 ?_
    refine V_iload_n h (dk dd_X8_begin_0 11 rfl) rfl get3 ?_
    refine V_lload h (dk dd_X8_begin_0 12 rfl) get4 ?_
    refine V_callV h st5 ci_X8_78 (pk_c (gp2 (ray_get (by omega))) pk_n) (nd_c (by simp <;> omega) nd_n) (m.toNat + 2) (gp2 (ray_get (by omega))) rfl (m_X7_start l G _ _ _ _ _ _ _ _ _ _ _ ) rfl rfl (Nat.le_of_ble_eq_true rfl) (by decide) ⟨rfl, rfl, rfl⟩ (dk dd_X8_begin_0 13 rfl) sk0 (sm_c (sp2 (ray_set12345 (by omega))) sm_n) ?_
    refine V_aload_n h (dk dd_X8_begin_0 14 rfl) rfl get0 ?_
    refine V_dup h (dk dd_X8_begin_0 15 rfl) rfl ?_
    refine V_get h fl_X8_56 0 get0 get5 (dk dd_X8_begin_0 16 rfl) ?_
    refine V_iconst h (dk dd_X8_begin_0 17 rfl) ?_
    refine V_iadd h (dk dd_X8_begin_0 18 rfl) ?_
    refine V_put h pf_X8_56 0 get0 (Nat.le_of_ble_eq_true rfl) set5 set0 rfl rfl (dk dd_X8_begin_0 19 rfl) ?_
    refine V_vret h hF (dk dd_X8_begin_0 20 rfl) ⟨Nat.le_of_ble_eq_true rfl, Nat.le_of_ble_eq_true rfl⟩ ?_
    first | exact det_v (by unfold bgM bgZ; simp only [if_neg (show ¬ m < 100 by omega)]) | exact det_v (by unfold bgM bgZ; simp only [if_pos (show m < 100 by omega)])

set_option maxHeartbeats 4000000 in
set_option maxRecDepth 100000 in
theorem m_X8_earliest (l : Launch) (G : GT) (sh rr lo mk ea pt : Nat) (ra : Int → Nat) (m : Int) (P S E T U : Int → Int) (hm : 0 ≤ m ∧ m ≤ 100) (hU : ∀ j, 0 ≤ j → j < m → Z01 (U j)) (hT : ∀ j, 0 ≤ j → j < m → R64 (T j)) : Ctr l G yX8_earliest cX8_earliest 4 (Option.some (FieldType.object "GalleryRays$Ray")) (rmO 0 0 0 0) [.ref sh] ((sh, .inr (7, [.ref rr, .ref lo, .ref mk, .ref ea, .ref pt, .int (iZ m)])) :: (rr, .inl (G.2 4, 100, .inr (.inr (.inr (.inr (rayA ra)))))) :: raysW ra P S E T U) (Det (some (refO ra (erlF T U m.toNat))) ((sh, .inr (7, [.ref rr, .ref lo, .ref mk, .ref ea, .ref pt, .int (iZ m)])) :: (rr, .inl (G.2 4, 100, .inr (.inr (.inr (.inr (rayA ra)))))) :: raysW ra P S E T U)) := by
  refine Ctr.go (own := RX8) (nm := "earliest") (by decide +kernel) rfl rfl [some (.ref sh), none, none, none] 3 rfl rfl (Nat.le_of_ble_eq_true rfl) ?_
  intro K h hF
  refine V_null h (dk dd_X8_earliest_0 0 rfl) ?_
  refine V_astore_nN h (dk dd_X8_earliest_0 1 rfl) rfl (Nat.le_of_ble_eq_true rfl) rfl set1 ?_
  refine V_iconst h (dk dd_X8_earliest_0 2 rfl) ?_
  refine V_istore_n h (dk dd_X8_earliest_0 3 rfl) rfl (Nat.le_of_ble_eq_true rfl) rfl set2 ?_
  have L4 : ∀ (fu : Nat) (i b : Int), 0 ≤ i ∧ i ≤ m ∧ b = erlF T U i.toNat → (m - i).toNat < fu → V K (0, 0) 4 [some (.ref sh), some (refO ra b), some (.int (iZ i)), none] [] ((sh, .inr (7, [.ref rr, .ref lo, .ref mk, .ref ea, .ref pt, .int (iZ m)])) :: (rr, .inl (G.2 4, 100, .inr (.inr (.inr (.inr (rayA ra)))))) :: raysW ra P S E T U) := by
    intro fu
    induction fu with
    | zero => intro i b _ hm; exact absurd hm (Nat.not_lt_zero _)
    | succ fu ih4 =>
      intro i b hI4 hm4
      obtain ⟨hi0, hi1, hb⟩ := hI4
      have hR := erl_R T U i.toNat
      rw [← hb] at hR
      refine V_iload_n h (dk dd_X8_earliest_0 4 rfl) rfl get2 ?_
      refine V_aload_n h (dk dd_X8_earliest_0 5 rfl) rfl get0 ?_
      refine V_get h fl_X8_56 0 get0 get5 (dk dd_X8_earliest_0 6 rfl) ?_
      refine V_icmp_ge (tgt := 50) h (dk dd_X8_earliest_0 7 rfl) rfl (by omega) (fun c9 => ?_) (fun c9 => ?_)
      · by_cases hbn : b = -1
        · rw [refO_n hbn]
          refine V_aload_nN h (dk dd_X8_earliest_0 28 rfl) rfl get1 ?_
          refine V_aretN h hF (dk dd_X8_earliest_0 29 rfl) ⟨Nat.le_of_ble_eq_true rfl, Nat.le_of_ble_eq_true rfl⟩ ?_
          have e : i = m := by omega
          subst e
          first | exact ⟨by rw [← hb, refO_n hbn], rfl⟩ | exact ⟨by rw [← hb, refO_r hbn], rfl⟩
        · rw [refO_r hbn]
          refine V_aload_n h (dk dd_X8_earliest_0 28 rfl) rfl get1 ?_
          refine V_aret h hF (dk dd_X8_earliest_0 29 rfl) ⟨Nat.le_of_ble_eq_true rfl, Nat.le_of_ble_eq_true rfl⟩ ?_
          have e : i = m := by omega
          subst e
          first | exact ⟨by rw [← hb, refO_n hbn], rfl⟩ | exact ⟨by rw [← hb, refO_r hbn], rfl⟩
      · refine V_aload_n h (dk dd_X8_earliest_0 8 rfl) rfl get0 ?_
        refine V_get h fl_X8_11 0 get0 get0 (dk dd_X8_earliest_0 9 rfl) ?_
        refine V_iload_n h (dk dd_X8_earliest_0 10 rfl) rfl get2 ?_
        refine V_aald (b := (ra i)) h 1 4 get1 rfl (by omega) (rayA_at (by omega)) (dk dd_X8_earliest_0 11 rfl) ?_
        refine V_astore_n h (dk dd_X8_earliest_0 12 rfl) rfl (Nat.le_of_ble_eq_true rfl) rfl set3 ?_
        refine V_aload_n h (dk dd_X8_earliest_0 13 rfl) rfl get3 ?_
        refine V_get h fl_X8_81 (i.toNat + 2) (gp2 (ray_get (by omega))) get5 (dk dd_X8_earliest_0 14 rfl) ?_
        refine V_if_eq (tgt := 44) h (dk dd_X8_earliest_0 15 rfl) rfl ((hU i hi0 (by omega)).R) (fun c23 => ?_) (fun c23 => ?_)
        · refine V_iinc h (dk dd_X8_earliest_0 26 rfl) get2 (Nat.le_of_ble_eq_true rfl) pokO2 set2 ?_
          refine V_goto (tgt := 4) h (dk dd_X8_earliest_0 27 rfl) rfl ?_
          refine V_wk (lw_s (lw_s (lw_s (lw_o lw_n)))) ?_
          exact ih4 _ _ ⟨by omega, by omega, by rw [erl_s hi0, if_neg (fun q => q.1 c23), ← hb]⟩ (by omega)
        · by_cases hbn : b = -1
          · rw [refO_n hbn]
            refine V_aload_nN h (dk dd_X8_earliest_0 16 rfl) rfl get1 ?_
            refine V_ifnullN (tgt := 42) h (dk dd_X8_earliest_0 17 rfl) rfl ?_
            refine V_aload_n h (dk dd_X8_earliest_0 24 rfl) rfl get3 ?_
            refine V_astore_n h (dk dd_X8_earliest_0 25 rfl) rfl (Nat.le_of_ble_eq_true rfl) rfl set1 ?_
            refine V_iinc h (dk dd_X8_earliest_0 26 rfl) get2 (Nat.le_of_ble_eq_true rfl) rfl set2 ?_
            refine V_goto (tgt := 4) h (dk dd_X8_earliest_0 27 rfl) rfl ?_
            refine V_wk (lw_s (lw_s (lw_s (lw_o lw_n)))) ?_
            have e1 := ih4 (i + 1) i ⟨by omega, by omega, by rw [erl_s hi0, if_pos ⟨c23, Or.inl (by rw [← hb]; exact hbn)⟩]⟩ (by omega)
            rw [refO_r (by omega)] at e1
            exact e1
          · rw [refO_r hbn]
            refine V_aload_n h (dk dd_X8_earliest_0 16 rfl) rfl get1 ?_
            refine V_ifnull h (dk dd_X8_earliest_0 17 rfl) ?_
            refine V_aload_n h (dk dd_X8_earliest_0 18 rfl) rfl get3 ?_
            refine V_get h fl_X8_85 (i.toNat + 2) (gp2 (ray_get (by omega))) get4 (dk dd_X8_earliest_0 19 rfl) ?_
            refine V_aload_n h (dk dd_X8_earliest_0 20 rfl) rfl get1 ?_
            refine V_get h fl_X8_85 (b.toNat + 2) (gp2 (ray_get (by omega))) get4 (dk dd_X8_earliest_0 21 rfl) ?_
            refine V_lcmp_ge (tgt := 44) h (dk dd_X8_earliest_0 22 rfl) (dk dd_X8_earliest_0 23 rfl) rfl (⟨hT i hi0 (by omega), hT b (by omega) (by omega)⟩) (fun c38 => ?_) (fun c38 => ?_)
            · refine V_iinc h (dk dd_X8_earliest_0 26 rfl) get2 (Nat.le_of_ble_eq_true rfl) rfl set2 ?_
              refine V_goto (tgt := 4) h (dk dd_X8_earliest_0 27 rfl) rfl ?_
              refine V_wk (lw_s (lw_s (lw_s (lw_o lw_n)))) ?_
              have e1 := ih4 (i + 1) b ⟨by omega, by omega, by rw [erl_s hi0, if_neg (fun q => q.2.elim (fun q => hbn (by rw [hb]; exact q)) (fun q => by rw [← hb] at q; omega)), ← hb]⟩ (by omega)
              rw [refO_r hbn] at e1
              exact e1
            · refine V_aload_n h (dk dd_X8_earliest_0 24 rfl) rfl get3 ?_
              refine V_astore_n h (dk dd_X8_earliest_0 25 rfl) rfl (Nat.le_of_ble_eq_true rfl) rfl set1 ?_
              refine V_iinc h (dk dd_X8_earliest_0 26 rfl) get2 (Nat.le_of_ble_eq_true rfl) rfl set2 ?_
              refine V_goto (tgt := 4) h (dk dd_X8_earliest_0 27 rfl) rfl ?_
              refine V_wk (lw_s (lw_s (lw_s (lw_o lw_n)))) ?_
              have e1 := ih4 (i + 1) i ⟨by omega, by omega, by rw [erl_s hi0, if_pos ⟨c23, Or.inr (by rw [← hb]; exact c38)⟩]⟩ (by omega)
              rw [refO_r (by omega)] at e1
              exact e1
  have e0 := L4 _ 0 (-1) ⟨by omega, by omega, rfl⟩ (Nat.lt_succ_self _)
  rw [refO_n rfl] at e0
  exact e0

set_option maxHeartbeats 4000000 in
set_option maxRecDepth 100000 in
theorem m_X8_split (l : Launch) (G : GT) (sh rr lo mk ea pt : Nat) (ra : Int → Nat) (m : Int) (P S E T U : Int → Int) (r k z : Int) (hm : 0 ≤ m ∧ m ≤ 100) (hr : 0 ≤ r ∧ r < 100) (hs : -13859 ≤ S r ∧ S r ≤ 13859) (hk : -9999 ≤ k ∧ k ≤ 9999) (he : 0 ≤ E r ∧ E r ≤ 1000000) (hz : R32 z) : Ctr l G yX8_split cX8_split 6 none (rmO 2 0 0 50) [.ref sh, .ref (ra r), .int (iZ k), .int (iZ z)] ((sh, .inr (7, [.ref rr, .ref lo, .ref mk, .ref ea, .ref pt, .int (iZ m)])) :: (rr, .inl (G.2 4, 100, .inr (.inr (.inr (.inr (rayA ra)))))) :: raysW ra P S E T U) (Det none ((sh, .inr (7, [.ref rr, .ref lo, .ref mk, .ref ea, .ref pt, .int (iZ (spX z k r (m, P, S, E, T, U)).1)])) :: (rr, .inl (G.2 4, 100, .inr (.inr (.inr (.inr (rayA ra)))))) :: raysW ra (spX z k r (m, P, S, E, T, U)).2.1 (spX z k r (m, P, S, E, T, U)).2.2.1 (spX z k r (m, P, S, E, T, U)).2.2.2.1 (spX z k r (m, P, S, E, T, U)).2.2.2.2.1 (spX z k r (m, P, S, E, T, U)).2.2.2.2.2)) := by
  refine Ctr.go (own := RX8) (nm := "split") (by decide +kernel) rfl rfl [some (.ref sh), some (.ref (ra r)), some (.int (iZ k)), some (.int (iZ z)), none, none] 2 rfl rfl (Nat.le_of_ble_eq_true rfl) ?_
  intro K h hF
  have ht := tilt_R (S r) k
  refine V_aload_n h (dk dd_X8_split_0 0 rfl) rfl get1 ?_
  refine V_get h fl_X8_137 (r.toNat + 2) (gp2 (ray_get (hr))) get3 (dk dd_X8_split_0 1 rfl) ?_
  refine V_iconst h (dk dd_X8_split_0 2 rfl) ?_
  refine V_idivP h (dk dd_X8_split_0 3 rfl) (by omega) ?_
  refine V_istore h (dk dd_X8_split_0 4 rfl) (Nat.le_of_ble_eq_true rfl) rfl set4 ?_
  refine V_aload_n h (dk dd_X8_split_0 5 rfl) rfl get1 ?_
  refine V_get h fl_X8_92 (r.toNat + 2) (gp2 (ray_get (hr))) get2 (dk dd_X8_split_0 6 rfl) ?_
  refine V_iload_n h (dk dd_X8_split_0 7 rfl) rfl get2 ?_
  refine V_callS h st2 ci_X8_160 pk_n rfl (m_X0_tilted l G _ _ (by omega) (by omega)) rfl rfl (Nat.le_of_ble_eq_true rfl) (by decide) ⟨rfl, rfl, rfl⟩ (dk dd_X8_split_0 8 rfl) sk1 sm_n ?_
  refine V_istore h (dk dd_X8_split_0 9 rfl) (Nat.le_of_ble_eq_true rfl) rfl set5 ?_
  refine V_aload_n h (dk dd_X8_split_0 10 rfl) rfl get1 ?_
  refine V_dup h (dk dd_X8_split_0 11 rfl) rfl ?_
  refine V_get h fl_X8_137 (r.toNat + 2) (gp2 (ray_get (hr))) get3 (dk dd_X8_split_0 12 rfl) ?_
  refine V_iload h (dk dd_X8_split_0 13 rfl) get4 ?_
  refine V_isub h (dk dd_X8_split_0 14 rfl) ?_
  refine V_put h pf_X8_137 (r.toNat + 2) (gp2 (ray_get (hr))) (Nat.le_of_ble_eq_true rfl) set3 (sp2 (ray_set3 (hr))) rfl rfl (dk dd_X8_split_0 15 rfl) ?_
  refine V_iload h (dk dd_X8_split_0 16 rfl) get5 ?_
  refine V_if_eq (tgt := 63) h (dk dd_X8_split_0 17 rfl) rfl (by omega) (fun c31 => ?_) (fun c31 => ?_)
  · refine V_vret h hF (dk dd_X8_split_0 33 rfl) ⟨Nat.le_of_ble_eq_true rfl, Nat.le_of_ble_eq_true rfl⟩ ?_
    first | exact det_v (by rw [sp_f (by omega)]) | exact det_v (by rw [sp_t ⟨c31, c37⟩])
  · refine V_iload h (dk dd_X8_split_0 18 rfl) get4 ?_
    refine V_iload_n h (dk dd_X8_split_0 19 rfl) rfl get3 ?_
    refine V_icmp_lt (tgt := 63) h (dk dd_X8_split_0 20 rfl) rfl (by omega) (fun c37 => ?_) (fun c37 => ?_)
    · refine V_vret h hF (dk dd_X8_split_0 33 rfl) ⟨Nat.le_of_ble_eq_true rfl, Nat.le_of_ble_eq_true rfl⟩ ?_
      first | exact det_v (by rw [sp_f (by omega)]) | exact det_v (by rw [sp_t ⟨c31, c37⟩])
    · refine V_aload_n h (dk dd_X8_split_0 21 rfl) rfl get0 ?_
      refine V_aload_n h (dk dd_X8_split_0 22 rfl) rfl get1 ?_
      refine V_get h fl_X8_89 (r.toNat + 2) (gp2 (ray_get (hr))) get1 (dk dd_X8_split_0 23 rfl) ?_
      refine V_iload h (dk dd_X8_split_0 24 rfl) get5 ?_
      refine V_iload h (dk dd_X8_split_0 25 rfl) get4 ?_
      refine V_aload_n h (dk dd_X8_split_0 26 rfl) rfl get1 ?_
      refine V_get h fl_X8_85 (r.toNat + 2) (gp2 (ray_get (hr))) get4 (dk dd_X8_split_0 27 rfl) ?_
      have hq := chord_R ht
      refine V_iload h (dk dd_X8_split_0 28 rfl) get5 ?_
      refine V_callS h st1 ci_X8_60 pk_n rfl (m_X0_chordTime l G _ (by omega)) rfl rfl (Nat.le_of_ble_eq_true rfl) (by decide) ⟨rfl, rfl, rfl⟩ (dk dd_X8_split_0 29 rfl) sk1 sm_n ?_
      refine V_i2l h (dk dd_X8_split_0 30 rfl) (by omega) ?_
      refine V_ladd h (dk dd_X8_split_0 31 rfl) ?_
      refine V_callV h st5 ci_X8_66 (pk_c get0 (pk_c get1 pt2)) (by decide +kernel) 0 get0 rfl (m_X8_begin l G _ _ _ _ _ _ _ _ _ _ _ _ _ _ _ _ _ (by omega)) rfl rfl (Nat.le_of_ble_eq_true rfl) (by decide) ⟨rfl, rfl, rfl⟩ (dk dd_X8_split_0 32 rfl) sk0 (sm_c set0 (sm_c set1 stl2)) ?_
      refine V_vret h hF (dk dd_X8_split_0 33 rfl) ⟨Nat.le_of_ble_eq_true rfl, Nat.le_of_ble_eq_true rfl⟩ ?_
      first | exact det_v (by rw [sp_f (by omega)]) | exact det_v (by rw [sp_t ⟨c31, c37⟩])

set_option maxHeartbeats 4000000 in
set_option maxRecDepth 100000 in
theorem m_X8_act (l : Launch) (G : GT) (sh rr lo mk ea pt : Nat) (ra : Int → Nat) (m : Int) (P S E T U : Int → Int) (w pw aw : Nat) (n lo2 z : Int) (f : Int → Int) (lb lc : Nat) (h ec es : Int) (Nn Ec : Int → Int) (eb : Nat) (A : Int → Int) (r i : Int) (hm : 0 ≤ m ∧ m ≤ 100) (hr : 0 ≤ r ∧ r < 100) (hs : -13859 ≤ S r ∧ S r ≤ 13859) (he : 0 ≤ E r ∧ E r ≤ 1000000) (hz : R32 z) (hn : 0 ≤ n ∧ n ≤ 12) (hh : 1 ≤ h ∧ h ≤ 600) (hec : 0 ≤ ec ∧ ec ≤ 600) (hE : ∀ j, 0 ≤ j → j < ec → R32 (Ec j)) (hA : ∀ j, 0 ≤ j → j < 48 → R64 (A j)) (hi : 0 ≤ i ∧ i < n) (hp : PartOK f i) : Ctr l G yX8_act cX8_act 5 none (rmO 3 0 0 75) [.ref sh, .ref w, .int (iZ i), .ref (ra r)] ((sh, .inr (7, [.ref rr, .ref lo, .ref mk, .ref ea, .ref pt, .int (iZ m)])) :: (rr, .inl (G.2 4, 100, .inr (.inr (.inr (.inr (rayA ra)))))) :: (lo, .inr (2, [.ref lb, .ref lc, .int (iZ h), .int (iZ ec), .long (lZ es)])) :: (lb, .inl (G.2 1, 3000, .inr (.inl (lF Nn)))) :: (lc, .inl (G.2 0, 600, .inl (iF Ec))) :: (ea, .inr (0, [.ref eb])) :: (eb, .inl (G.2 1, 48, .inr (.inl (lF A)))) :: (w, .inr (9, [.ref pw, .int (iZ lo2), .int (iZ z)])) :: (pw, .inr (3, [.ref aw, .int (iZ n)])) :: (aw, .inl (G.2 0, 48, .inl (iF f))) :: raysW ra P S E T U) (Det none ((sh, .inr (7, [.ref rr, .ref lo, .ref mk, .ref ea, .ref pt, .int (iZ (actX z h (f (i * 4 + 0)) (f (i * 4 + 3)) i r ((m, P, S, E, T, U), A, ec, Ec)).1.1)])) :: (rr, .inl (G.2 4, 100, .inr (.inr (.inr (.inr (rayA ra)))))) :: (lo, .inr (2, [.ref lb, .ref lc, .int (iZ h), .int (iZ (actX z h (f (i * 4 + 0)) (f (i * 4 + 3)) i r ((m, P, S, E, T, U), A, ec, Ec)).2.2.1), .long (lZ es)])) :: (lb, .inl (G.2 1, 3000, .inr (.inl (lF Nn)))) :: (lc, .inl (G.2 0, 600, .inl (iF (actX z h (f (i * 4 + 0)) (f (i * 4 + 3)) i r ((m, P, S, E, T, U), A, ec, Ec)).2.2.2))) :: (ea, .inr (0, [.ref eb])) :: (eb, .inl (G.2 1, 48, .inr (.inl (lF (actX z h (f (i * 4 + 0)) (f (i * 4 + 3)) i r ((m, P, S, E, T, U), A, ec, Ec)).2.1)))) :: (w, .inr (9, [.ref pw, .int (iZ lo2), .int (iZ z)])) :: (pw, .inr (3, [.ref aw, .int (iZ n)])) :: (aw, .inl (G.2 0, 48, .inl (iF f))) :: raysW ra (actX z h (f (i * 4 + 0)) (f (i * 4 + 3)) i r ((m, P, S, E, T, U), A, ec, Ec)).1.2.1 (actX z h (f (i * 4 + 0)) (f (i * 4 + 3)) i r ((m, P, S, E, T, U), A, ec, Ec)).1.2.2.1 (actX z h (f (i * 4 + 0)) (f (i * 4 + 3)) i r ((m, P, S, E, T, U), A, ec, Ec)).1.2.2.2.1 (actX z h (f (i * 4 + 0)) (f (i * 4 + 3)) i r ((m, P, S, E, T, U), A, ec, Ec)).1.2.2.2.2.1 (actX z h (f (i * 4 + 0)) (f (i * 4 + 3)) i r ((m, P, S, E, T, U), A, ec, Ec)).1.2.2.2.2.2)) := by
  refine Ctr.go (own := RX8) (nm := "act") (by decide +kernel) rfl rfl [some (.ref sh), some (.ref w), some (.int (iZ i)), some (.ref (ra r)), none] 1 rfl rfl (Nat.le_of_ble_eq_true rfl) ?_
  intro K h hF
  have hk := hp.k
  have hk2 := hp.1
  refine V_aload_n h (dk dd_X8_act_0 0 rfl) rfl get1 ?_
  refine V_get h fl_X8_120 7 get7 get0 (dk dd_X8_act_0 1 rfl) ?_
  refine V_iload_n h (dk dd_X8_act_0 2 rfl) rfl get2 ?_
  refine V_iconst h (dk dd_X8_act_0 3 rfl) ?_
  refine V_callV h st3 ci_X8_143 (pk_c get8 (pk_c get9 pk_n)) rfl 8 get8 rfl (m_X4_numberOf_in l G _ _ _ _ _ _ (by omega) (by omega) (by omega)) rfl rfl (Nat.le_of_ble_eq_true rfl) (by decide) ⟨rfl, rfl, rfl⟩ (dk dd_X8_act_0 4 rfl) sk1 (sm_c set8 (sm_c set9 sm_n)) ?_
  refine V_istore h (dk dd_X8_act_0 5 rfl) (Nat.le_of_ble_eq_true rfl) rfl set4 ?_
  refine V_aload_n h (dk dd_X8_act_0 6 rfl) rfl get1 ?_
  refine V_get h fl_X8_120 7 get7 get0 (dk dd_X8_act_0 7 rfl) ?_
  refine V_iload_n h (dk dd_X8_act_0 8 rfl) rfl get2 ?_
  refine V_iconst h (dk dd_X8_act_0 9 rfl) ?_
  refine V_callV h st3 ci_X8_143 (pk_c get8 (pk_c get9 pk_n)) rfl 8 get8 rfl (m_X4_numberOf_in l G _ _ _ _ _ _ (by omega) (by omega) (by omega)) rfl rfl (Nat.le_of_ble_eq_true rfl) (by decide) ⟨rfl, rfl, rfl⟩ (dk dd_X8_act_0 10 rfl) sk1 (sm_c set8 (sm_c set9 sm_n)) ?_
  rcases (show f (i * 4 + 0) = 0 ∨ f (i * 4 + 0) = 1 ∨ f (i * 4 + 0) = 2 ∨ f (i * 4 + 0) = 3 ∨ f (i * 4 + 0) = 4 from (by omega)) with hs0 | hs0 | hs0 | hs0 | hs0
  · refine V_tsI (tgt := 52) (v := 0) h (dk dd_X8_act_0 11 rfl) (by omega) rfl rfl ?_
    refine V_aload_n h (dk dd_X8_act_0 12 rfl) rfl get3 ?_
    refine V_iload h (dk dd_X8_act_0 13 rfl) get4 ?_
    refine V_callV h st2 ci_X8_117 (pk_c (gp10 (ray_get (hr))) pk_n) (nd_c (by simp <;> omega) nd_n) (r.toNat + 10) (gp10 (ray_get (hr))) rfl (m_X7_lose l G _ _ _ _ _ _ _ _ (by omega) (hk.1 hs0)) rfl rfl (Nat.le_of_ble_eq_true rfl) (by decide) ⟨rfl, rfl, rfl⟩ (dk dd_X8_act_0 14 rfl) sk0 (sm_c (sp10 (ray_set3 (hr))) sm_n) ?_
    refine V_goto (tgt := 112) h (dk dd_X8_act_0 15 rfl) rfl ?_
    refine V_vret h hF (dk dd_X8_act_0 41 rfl) ⟨Nat.le_of_ble_eq_true rfl, Nat.le_of_ble_eq_true rfl⟩ ?_
    first | exact det_v (by rw [act_0 hs0]) | exact det_v (by rw [act_1 hs0]) | exact det_v (by rw [act_2 hs0]) | exact det_v (by rw [act_3 hs0]) | exact det_v (by rw [act_4 hs0])
  · refine V_tsI (tgt := 61) (v := 1) h (dk dd_X8_act_0 11 rfl) (by omega) rfl rfl ?_
    refine V_aload_n h (dk dd_X8_act_0 16 rfl) rfl get3 ?_
    refine V_aload_n h (dk dd_X8_act_0 17 rfl) rfl get3 ?_
    refine V_get h fl_X8_92 (r.toNat + 10) (gp10 (ray_get (hr))) get2 (dk dd_X8_act_0 18 rfl) ?_
    refine V_ineg h (dk dd_X8_act_0 19 rfl) ?_
    refine V_put h pf_X8_92 (r.toNat + 10) (gp10 (ray_get (hr))) (Nat.le_of_ble_eq_true rfl) set2 (sp10 (ray_set2 (hr))) rfl rfl (dk dd_X8_act_0 20 rfl) ?_
    refine V_goto (tgt := 112) h (dk dd_X8_act_0 21 rfl) rfl ?_
    refine V_vret h hF (dk dd_X8_act_0 41 rfl) ⟨Nat.le_of_ble_eq_true rfl, Nat.le_of_ble_eq_true rfl⟩ ?_
    first | exact det_v (by rw [act_0 hs0]) | exact det_v (by rw [act_1 hs0]) | exact det_v (by rw [act_2 hs0]) | exact det_v (by rw [act_3 hs0]) | exact det_v (by rw [act_4 hs0])
  · refine V_tsI (tgt := 73) (v := 2) h (dk dd_X8_act_0 11 rfl) (by omega) rfl rfl ?_
    refine V_aload_n h (dk dd_X8_act_0 22 rfl) rfl get3 ?_
    refine V_iload h (dk dd_X8_act_0 23 rfl) get4 ?_
    refine V_callV h st2 ci_X8_146 (pk_c (gp10 (ray_get (hr))) pk_n) (nd_c (by simp <;> omega) nd_n) (r.toNat + 10) (gp10 (ray_get (hr))) rfl (m_X7_tilt l G _ _ _ _ _ _ _ _ (by omega) (by omega)) rfl rfl (Nat.le_of_ble_eq_true rfl) (by decide) ⟨rfl, rfl, rfl⟩ (dk dd_X8_act_0 24 rfl) sk0 (sm_c (sp10 (ray_set25 (hr))) sm_n) ?_
    refine V_goto (tgt := 112) h (dk dd_X8_act_0 25 rfl) rfl ?_
    refine V_vret h hF (dk dd_X8_act_0 41 rfl) ⟨Nat.le_of_ble_eq_true rfl, Nat.le_of_ble_eq_true rfl⟩ ?_
    first | exact det_v (by rw [act_0 hs0]) | exact det_v (by rw [act_1 hs0]) | exact det_v (by rw [act_2 hs0]) | exact det_v (by rw [act_3 hs0]) | exact det_v (by rw [act_4 hs0])
  · refine V_tsI (tgt := 82) (v := 3) h (dk dd_X8_act_0 11 rfl) (by omega) rfl rfl ?_
    refine V_aload_n h (dk dd_X8_act_0 26 rfl) rfl get0 ?_
    refine V_aload_n h (dk dd_X8_act_0 27 rfl) rfl get3 ?_
    refine V_iload h (dk dd_X8_act_0 28 rfl) get4 ?_
    refine V_aload_n h (dk dd_X8_act_0 29 rfl) rfl get1 ?_
    refine V_get h fl_X8_140 7 get7 get2 (dk dd_X8_act_0 30 rfl) ?_
    refine V_callV h st4 ci_X8_149 (pk_c get0 (pk_c get1 pt10)) (by decide +kernel) 0 get0 rfl (m_X8_split l G _ _ _ _ _ _ _ _ _ _ _ _ _ _ _ _ (by omega) (by omega) (by omega) (by omega) (by omega) (by omega)) rfl rfl (Nat.le_of_ble_eq_true rfl) (by decide) ⟨rfl, rfl, rfl⟩ (dk dd_X8_act_0 31 rfl) sk0 (sm_c set0 (sm_c set1 stl10)) ?_
    refine V_goto (tgt := 112) h (dk dd_X8_act_0 32 rfl) rfl ?_
    refine V_vret h hF (dk dd_X8_act_0 41 rfl) ⟨Nat.le_of_ble_eq_true rfl, Nat.le_of_ble_eq_true rfl⟩ ?_
    first | exact det_v (by rw [act_0 hs0]) | exact det_v (by rw [act_1 hs0]) | exact det_v (by rw [act_2 hs0]) | exact det_v (by rw [act_3 hs0]) | exact det_v (by rw [act_4 hs0])
  · refine V_tsO (tgt := 96) h (dk dd_X8_act_0 11 rfl) (by omega) rfl ?_
    refine V_aload_n h (dk dd_X8_act_0 33 rfl) rfl get0 ?_
    refine V_get h fl_X8_34 0 get0 get3 (dk dd_X8_act_0 34 rfl) ?_
    refine V_iload_n h (dk dd_X8_act_0 35 rfl) rfl get2 ?_
    refine V_aload_n h (dk dd_X8_act_0 36 rfl) rfl get3 ?_
    refine V_callV h st3 ci_X8_153 (pk_c get5 (pk_c get6 (pk_c (gp10 (ray_get (hr))) pk_n))) (nd_c (by simp <;> omega) (nd_c (by simp <;> omega) (nd_c (by simp <;> omega) nd_n))) 5 get5 rfl (m_X1_hear l G _ _ _ _ _ _ _ _ _ _ _ (by omega) (hA) (by omega)) rfl rfl (Nat.le_of_ble_eq_true rfl) (by decide) ⟨rfl, rfl, rfl⟩ (dk dd_X8_act_0 37 rfl) sk0 (sm_c set5 (sm_c set6 (sm_c (sp10 (ray_set0 (hr))) sm_n))) ?_
    refine V_aload_n h (dk dd_X8_act_0 38 rfl) rfl get0 ?_
    refine V_get h fl_X8_20 0 get0 get1 (dk dd_X8_act_0 39 rfl) ?_
    refine V_callV h st1 ci_X8_157 (pk_c get2 (pk_c get3 (pk_c get4 pk_n))) rfl 2 get2 rfl (m_X3_noteEcho l G _ _ _ _ _ _ _ _ (by omega) (by omega) (hE)) rfl rfl (Nat.le_of_ble_eq_true rfl) (by decide) ⟨rfl, rfl, rfl⟩ (dk dd_X8_act_0 40 rfl) sk0 (sm_c set2 (sm_c set3 (sm_c set4 sm_n))) ?_
    refine V_vret h hF (dk dd_X8_act_0 41 rfl) ⟨Nat.le_of_ble_eq_true rfl, Nat.le_of_ble_eq_true rfl⟩ ?_
    first | exact det_v (by rw [act_0 hs0]) | exact det_v (by rw [act_1 hs0]) | exact det_v (by rw [act_2 hs0]) | exact det_v (by rw [act_3 hs0]) | exact det_v (by rw [act_4 hs0])

