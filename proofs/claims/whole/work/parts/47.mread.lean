/-! the reference: its reader -/
set_option maxHeartbeats 4000000 in
set_option maxRecDepth 100000 in
theorem m_X12_sign (l : Launch) (G : GT) (x : Nat) (q : Nat → Nat) (pm ty ap fo wr rm hm sb be : Int) (tx : Int → Int) (hc : ChOK tx ty) (ha : 0 ≤ ap ∧ ap ≤ ty) : Ctr l G yX12_sign cX12_sign 1 (Option.some FieldType.int) (rmO 0 0 0 0) [.ref x] [(x, .inr (11, [.ref (q 1), .ref (q 2), .int (iZ pm), .ref (q 3), .int (iZ ty), .int (iZ ap), .int (iZ fo), .int (iZ wr), .ref (q 4), .ref (q 5), .ref (q 6), .ref (q 7), .ref (q 8), .ref (q 9), .ref (q 10), .int (iZ rm), .ref (q 11), .ref (q 12), .int (iZ hm), .ref (q 13), .ref (q 14), .ref (q 15), .ref (q 16), .int (iZ sb), .int (iZ be), .ref (q 17), .ref (q 18)])), ((q 3), .inl (G.2 0, 60, .inl (iF tx)))] (Det (some (.int (iZ (sgM (sgF tx ty ap))))) [(x, .inr (11, [.ref (q 1), .ref (q 2), .int (iZ pm), .ref (q 3), .int (iZ ty), .int (iZ ap), .int (iZ fo), .int (iZ wr), .ref (q 4), .ref (q 5), .ref (q 6), .ref (q 7), .ref (q 8), .ref (q 9), .ref (q 10), .int (iZ rm), .ref (q 11), .ref (q 12), .int (iZ hm), .ref (q 13), .ref (q 14), .ref (q 15), .ref (q 16), .int (iZ sb), .int (iZ be), .ref (q 17), .ref (q 18)])), ((q 3), .inl (G.2 0, 60, .inl (iF tx)))]) := by
  refine Ctr.go (own := RX12) (nm := "sign") (by decide +kernel) rfl rfl [some (.ref x)] 0 rfl rfl (Nat.le_of_ble_eq_true rfl) ?_
  intro K h hF
  have hc1 := hc.1
  have hga := sg_R hc ap
  have hz := sgM_sp (sgF tx ty ap)
  refine V_aload_n h (dk dd_X12_sign_0 0 rfl) rfl get0 ?_
  refine V_get h fl_X12_99 0 get0 get5 (dk dd_X12_sign_0 1 rfl) ?_
  refine V_aload_n h (dk dd_X12_sign_0 2 rfl) rfl get0 ?_
  refine V_get h fl_X12_96 0 get0 get4 (dk dd_X12_sign_0 3 rfl) ?_
  refine V_icmp_ge (tgt := 23) h (dk dd_X12_sign_0 4 rfl) rfl (by omega) (fun c8 => ?_) (fun c8 => ?_)
  · refine V_iconst h (dk dd_X12_sign_0 11 rfl) ?_
    refine V_iret h hF (dk dd_X12_sign_0 12 rfl) ⟨Nat.le_of_ble_eq_true rfl, Nat.le_of_ble_eq_true rfl⟩ ?_
    first | exact det_i (by unfold sgM sgF; rw [if_neg (show ¬ (0 ≤ ap ∧ ap < ty) by omega), if_pos rfl]) rfl | exact det_i (by have e : sgF tx ty ap = tx ap := if_pos (by omega); have := hc.2 ap (by omega) (by omega); omega) rfl
  · refine V_aload_n h (dk dd_X12_sign_0 5 rfl) rfl get0 ?_
    refine V_get h fl_X12_16 0 get0 get3 (dk dd_X12_sign_0 6 rfl) ?_
    refine V_aload_n h (dk dd_X12_sign_0 7 rfl) rfl get0 ?_
    refine V_get h fl_X12_99 0 get0 get5 (dk dd_X12_sign_0 8 rfl) ?_
    refine V_iald h 1 get1 (by omega) (dk dd_X12_sign_0 9 rfl) ?_
    refine V_goto (tgt := 24) h (dk dd_X12_sign_0 10 rfl) rfl ?_
    refine V_iret h hF (dk dd_X12_sign_0 12 rfl) ⟨Nat.le_of_ble_eq_true rfl, Nat.le_of_ble_eq_true rfl⟩ ?_
    first | exact det_i (by unfold sgM sgF; rw [if_neg (show ¬ (0 ≤ ap ∧ ap < ty) by omega), if_pos rfl]) rfl | exact det_i (by have e : sgF tx ty ap = tx ap := if_pos (by omega); have := hc.2 ap (by omega) (by omega); omega) rfl

set_option maxHeartbeats 4000000 in
set_option maxRecDepth 100000 in
theorem m_X12_takes (l : Launch) (G : GT) (x : Nat) (q : Nat → Nat) (pm ty ap fo wr rm hm sb be : Int) (tx : Int → Int) (c : Int) (hc : ChOK tx ty) (ha : 0 ≤ ap ∧ ap ≤ ty) (hcc : 1 ≤ c ∧ c ≤ 126) : Ctr l G yX12_takes cX12_takes 3 (Option.some FieldType.boolean) (rmO 1 0 0 20) [.ref x, .int (iZ c)] [(x, .inr (11, [.ref (q 1), .ref (q 2), .int (iZ pm), .ref (q 3), .int (iZ ty), .int (iZ ap), .int (iZ fo), .int (iZ wr), .ref (q 4), .ref (q 5), .ref (q 6), .ref (q 7), .ref (q 8), .ref (q 9), .ref (q 10), .int (iZ rm), .ref (q 11), .ref (q 12), .int (iZ hm), .ref (q 13), .ref (q 14), .ref (q 15), .ref (q 16), .int (iZ sb), .int (iZ be), .ref (q 17), .ref (q 18)])), ((q 3), .inl (G.2 0, 60, .inl (iF tx)))] (Det (some (.int (iZ (bZ (sgF tx ty ap = c))))) [(x, .inr (11, [.ref (q 1), .ref (q 2), .int (iZ pm), .ref (q 3), .int (iZ ty), .int (iZ (tk1 tx ty c ap)), .int (iZ fo), .int (iZ wr), .ref (q 4), .ref (q 5), .ref (q 6), .ref (q 7), .ref (q 8), .ref (q 9), .ref (q 10), .int (iZ rm), .ref (q 11), .ref (q 12), .int (iZ hm), .ref (q 13), .ref (q 14), .ref (q 15), .ref (q 16), .int (iZ sb), .int (iZ be), .ref (q 17), .ref (q 18)])), ((q 3), .inl (G.2 0, 60, .inl (iF tx)))]) := by
  refine Ctr.go (own := RX12) (nm := "takes") (by decide +kernel) rfl rfl [some (.ref x), some (.int (iZ c)), none] 1 rfl rfl (Nat.le_of_ble_eq_true rfl) ?_
  intro K h hF
  have hc1 := hc.1
  have hga := sg_R hc ap
  have hz := sgM_sp (sgF tx ty ap)
  refine V_aload_n h (dk dd_X12_takes_0 0 rfl) rfl get0 ?_
  refine V_callV h st1 ci_X12_102 (pk_c get0 (pk_c get1 pk_n)) rfl 0 get0 rfl (m_X12_sign l G _ _ _ _ _ _ _ _ _ _ _ _ (hc) (by omega)) rfl rfl (Nat.le_of_ble_eq_true rfl) (by decide) ⟨rfl, rfl, rfl⟩ (dk dd_X12_takes_0 1 rfl) sk1 (sm_c set0 (sm_c set1 sm_n)) ?_
  refine V_iload_n h (dk dd_X12_takes_0 2 rfl) rfl get1 ?_
  refine V_icmp_ne (tgt := 12) h (dk dd_X12_takes_0 3 rfl) rfl (by omega) (fun c5 => ?_) (fun c5 => ?_)
  · refine V_iconst h (dk dd_X12_takes_0 6 rfl) ?_
    refine V_istore_n h (dk dd_X12_takes_0 7 rfl) rfl (Nat.le_of_ble_eq_true rfl) rfl set2 ?_
    refine V_aload_n h (dk dd_X12_takes_0 8 rfl) rfl get0 ?_
    refine V_dup h (dk dd_X12_takes_0 9 rfl) rfl ?_
    refine V_get h fl_X12_99 0 get0 get5 (dk dd_X12_takes_0 10 rfl) ?_
    refine V_iload_n h (dk dd_X12_takes_0 11 rfl) rfl get2 ?_
    refine V_if_eq (tgt := 27) h (dk dd_X12_takes_0 12 rfl) rfl (by omega) (fun c20 => ?_) (fun c20 => ?_)
    · refine V_iconst h (dk dd_X12_takes_0 15 rfl) ?_
      refine V_iadd h (dk dd_X12_takes_0 16 rfl) ?_
      refine V_put h pf_X12_99 0 get0 (Nat.le_of_ble_eq_true rfl) set5 set0 rfl rfl (dk dd_X12_takes_0 17 rfl) ?_
      refine V_iload_n h (dk dd_X12_takes_0 18 rfl) rfl get2 ?_
      refine V_zret h hF (dk dd_X12_takes_0 19 rfl) ⟨Nat.le_of_ble_eq_true rfl, Nat.le_of_ble_eq_true rfl⟩ (by first | exact Or.inr rfl | exact Or.inl rfl | exact bZ_01 | omega) ?_
      first | exact det_i (bZ_t (P := sgF tx ty ap = c) (by omega)).symm (by rw [tk1_y (by omega)]) | exact det_i (bZ_f (P := sgF tx ty ap = c) (by omega)).symm (by rw [tk1_n (by omega), Int.add_zero])
    · exfalso; omega
  · refine V_iconst h (dk dd_X12_takes_0 4 rfl) ?_
    refine V_goto (tgt := 13) h (dk dd_X12_takes_0 5 rfl) rfl ?_
    refine V_istore_n h (dk dd_X12_takes_0 7 rfl) rfl (Nat.le_of_ble_eq_true rfl) rfl set2 ?_
    refine V_aload_n h (dk dd_X12_takes_0 8 rfl) rfl get0 ?_
    refine V_dup h (dk dd_X12_takes_0 9 rfl) rfl ?_
    refine V_get h fl_X12_99 0 get0 get5 (dk dd_X12_takes_0 10 rfl) ?_
    refine V_iload_n h (dk dd_X12_takes_0 11 rfl) rfl get2 ?_
    refine V_if_eq (tgt := 27) h (dk dd_X12_takes_0 12 rfl) rfl (by omega) (fun c20_2 => ?_) (fun c20_2 => ?_)
    · exfalso; omega
    · refine V_iconst h (dk dd_X12_takes_0 13 rfl) ?_
      refine V_goto (tgt := 28) h (dk dd_X12_takes_0 14 rfl) rfl ?_
      refine V_iadd h (dk dd_X12_takes_0 16 rfl) ?_
      refine V_put h pf_X12_99 0 get0 (Nat.le_of_ble_eq_true rfl) set5 set0 rfl rfl (dk dd_X12_takes_0 17 rfl) ?_
      refine V_iload_n h (dk dd_X12_takes_0 18 rfl) rfl get2 ?_
      refine V_zret h hF (dk dd_X12_takes_0 19 rfl) ⟨Nat.le_of_ble_eq_true rfl, Nat.le_of_ble_eq_true rfl⟩ (by first | exact Or.inr rfl | exact Or.inl rfl | exact bZ_01 | omega) ?_
      first | exact det_i (bZ_t (P := sgF tx ty ap = c) (by omega)).symm (by rw [tk1_y (by omega)]) | exact det_i (bZ_f (P := sgF tx ty ap = c) (by omega)).symm (by rw [tk1_n (by omega), Int.add_zero])

set_option maxHeartbeats 4000000 in
set_option maxRecDepth 100000 in
theorem m_X12_four (l : Launch) (G : GT) (x : Nat) (q : Nat → Nat) (pm ty ap fo wr rm hm sb be : Int) (tx : Int → Int) (c1 c2 c3 c4 : Int) (hc : ChOK tx ty) (ha : 0 ≤ ap ∧ ap ≤ ty) (h1 : 1 ≤ c1 ∧ c1 ≤ 126) (h2 : 1 ≤ c2 ∧ c2 ≤ 126) (h3 : 1 ≤ c3 ∧ c3 ≤ 126) (h4 : 1 ≤ c4 ∧ c4 ≤ 126) : Ctr l G yX12_four cX12_four 5 (Option.some FieldType.boolean) (rmO 2 0 0 42) [.ref x, .int (iZ c1), .int (iZ c2), .int (iZ c3), .int (iZ c4)] [(x, .inr (11, [.ref (q 1), .ref (q 2), .int (iZ pm), .ref (q 3), .int (iZ ty), .int (iZ ap), .int (iZ fo), .int (iZ wr), .ref (q 4), .ref (q 5), .ref (q 6), .ref (q 7), .ref (q 8), .ref (q 9), .ref (q 10), .int (iZ rm), .ref (q 11), .ref (q 12), .int (iZ hm), .ref (q 13), .ref (q 14), .ref (q 15), .ref (q 16), .int (iZ sb), .int (iZ be), .ref (q 17), .ref (q 18)])), ((q 3), .inl (G.2 0, 60, .inl (iF tx)))] (Det (some (.int (iZ (f4F tx ty ap c1 c2 c3 c4).2))) [(x, .inr (11, [.ref (q 1), .ref (q 2), .int (iZ pm), .ref (q 3), .int (iZ ty), .int (iZ (f4F tx ty ap c1 c2 c3 c4).1), .int (iZ fo), .int (iZ wr), .ref (q 4), .ref (q 5), .ref (q 6), .ref (q 7), .ref (q 8), .ref (q 9), .ref (q 10), .int (iZ rm), .ref (q 11), .ref (q 12), .int (iZ hm), .ref (q 13), .ref (q 14), .ref (q 15), .ref (q 16), .int (iZ sb), .int (iZ be), .ref (q 17), .ref (q 18)])), ((q 3), .inl (G.2 0, 60, .inl (iF tx)))]) := by
  refine Ctr.go (own := RX12) (nm := "four") (by decide +kernel) rfl rfl [some (.ref x), some (.int (iZ c1)), some (.int (iZ c2)), some (.int (iZ c3)), some (.int (iZ c4))] 0 rfl rfl (Nat.le_of_ble_eq_true rfl) ?_
  intro K h hF
  have hc1 := hc.1
  refine V_aload_n h (dk dd_X12_four_0 0 rfl) rfl get0 ?_
  refine V_iload_n h (dk dd_X12_four_0 1 rfl) rfl get1 ?_
  refine V_callV h st2 ci_X12_106 (pk_c get0 (pk_c get1 pk_n)) rfl 0 get0 rfl (m_X12_takes l G _ _ _ _ _ _ _ _ _ _ _ _ _ (hc) (by omega) (by omega)) rfl rfl (Nat.le_of_ble_eq_true rfl) (by decide) ⟨rfl, rfl, rfl⟩ (dk dd_X12_four_0 2 rfl) sk1 (sm_c set0 (sm_c set1 sm_n)) ?_
  refine V_ifz_eq (tgt := 37) h (dk dd_X12_four_0 3 rfl) rfl (fun c5 => ?_) (fun c5 => ?_)
  · refine V_iconst h (dk dd_X12_four_0 18 rfl) ?_
    refine V_zret h hF (dk dd_X12_four_0 19 rfl) ⟨Nat.le_of_ble_eq_true rfl, Nat.le_of_ble_eq_true rfl⟩ (by first | exact Or.inr rfl | exact Or.inl rfl | exact bZ_01 | omega) ?_
    rw [f4_a c5, tk1_n c5]
    exact det_i rfl rfl
  · rw [tk1_y c5]
    have hlc5 := (sg_R hc (ap)).2.2 (by omega)
    refine V_aload_n h (dk dd_X12_four_0 4 rfl) rfl get0 ?_
    refine V_iload_n h (dk dd_X12_four_0 5 rfl) rfl get2 ?_
    refine V_callV h st2 ci_X12_106 (pk_c get0 (pk_c get1 pk_n)) rfl 0 get0 rfl (m_X12_takes l G _ _ _ _ _ _ _ _ _ _ _ _ _ (hc) (by omega) (by omega)) rfl rfl (Nat.le_of_ble_eq_true rfl) (by decide) ⟨rfl, rfl, rfl⟩ (dk dd_X12_four_0 6 rfl) sk1 (sm_c set0 (sm_c set1 sm_n)) ?_
    refine V_ifz_eq (tgt := 37) h (dk dd_X12_four_0 7 rfl) rfl (fun c13 => ?_) (fun c13 => ?_)
    · refine V_iconst h (dk dd_X12_four_0 18 rfl) ?_
      refine V_zret h hF (dk dd_X12_four_0 19 rfl) ⟨Nat.le_of_ble_eq_true rfl, Nat.le_of_ble_eq_true rfl⟩ (by first | exact Or.inr rfl | exact Or.inl rfl | exact bZ_01 | omega) ?_
      rw [f4_b c5 c13, tk1_n c13]
      exact det_i rfl rfl
    · rw [tk1_y c13]
      have hlc13 := (sg_R hc (ap + 1)).2.2 (by omega)
      refine V_aload_n h (dk dd_X12_four_0 8 rfl) rfl get0 ?_
      refine V_iload_n h (dk dd_X12_four_0 9 rfl) rfl get3 ?_
      refine V_callV h st2 ci_X12_106 (pk_c get0 (pk_c get1 pk_n)) rfl 0 get0 rfl (m_X12_takes l G _ _ _ _ _ _ _ _ _ _ _ _ _ (hc) (by omega) (by omega)) rfl rfl (Nat.le_of_ble_eq_true rfl) (by decide) ⟨rfl, rfl, rfl⟩ (dk dd_X12_four_0 10 rfl) sk1 (sm_c set0 (sm_c set1 sm_n)) ?_
      refine V_ifz_eq (tgt := 37) h (dk dd_X12_four_0 11 rfl) rfl (fun c21 => ?_) (fun c21 => ?_)
      · refine V_iconst h (dk dd_X12_four_0 18 rfl) ?_
        refine V_zret h hF (dk dd_X12_four_0 19 rfl) ⟨Nat.le_of_ble_eq_true rfl, Nat.le_of_ble_eq_true rfl⟩ (by first | exact Or.inr rfl | exact Or.inl rfl | exact bZ_01 | omega) ?_
        rw [f4_c c5 c13 c21, tk1_n c21]
        exact det_i rfl rfl
      · rw [tk1_y c21]
        have hlc21 := (sg_R hc (ap + 1 + 1)).2.2 (by omega)
        refine V_aload_n h (dk dd_X12_four_0 12 rfl) rfl get0 ?_
        refine V_iload h (dk dd_X12_four_0 13 rfl) get4 ?_
        refine V_callV h st2 ci_X12_106 (pk_c get0 (pk_c get1 pk_n)) rfl 0 get0 rfl (m_X12_takes l G _ _ _ _ _ _ _ _ _ _ _ _ _ (hc) (by omega) (by omega)) rfl rfl (Nat.le_of_ble_eq_true rfl) (by decide) ⟨rfl, rfl, rfl⟩ (dk dd_X12_four_0 14 rfl) sk1 (sm_c set0 (sm_c set1 sm_n)) ?_
        refine V_ifz_eq (tgt := 37) h (dk dd_X12_four_0 15 rfl) rfl (fun c30 => ?_) (fun c30 => ?_)
        · refine V_iconst h (dk dd_X12_four_0 18 rfl) ?_
          refine V_zret h hF (dk dd_X12_four_0 19 rfl) ⟨Nat.le_of_ble_eq_true rfl, Nat.le_of_ble_eq_true rfl⟩ (by first | exact Or.inr rfl | exact Or.inl rfl | exact bZ_01 | omega) ?_
          rw [f4_d c5 c13 c21 c30, tk1_n c30]
          exact det_i rfl rfl
        · rw [tk1_y c30]
          have hlc30 := (sg_R hc (ap + 1 + 1 + 1)).2.2 (by omega)
          refine V_iconst h (dk dd_X12_four_0 16 rfl) ?_
          refine V_goto (tgt := 38) h (dk dd_X12_four_0 17 rfl) rfl ?_
          refine V_zret h hF (dk dd_X12_four_0 19 rfl) ⟨Nat.le_of_ble_eq_true rfl, Nat.le_of_ble_eq_true rfl⟩ (by first | exact Or.inr rfl | exact Or.inl rfl | exact bZ_01 | omega) ?_
          rw [f4_e c5 c13 c21 c30]
          exact det_i rfl rfl

set_option maxHeartbeats 4000000 in
set_option maxRecDepth 100000 in
theorem m_X12_word (l : Launch) (G : GT) (x : Nat) (q : Nat → Nat) (pm ty ap fo wr rm hm sb be : Int) (tx : Int → Int) (kd : Int → Int) (hc : ChOK tx ty) (ha : 0 ≤ ap ∧ ap ≤ ty) (hf : 0 ≤ fo ∧ fo ≤ 100) : Ctr l G yX12_word cX12_word 3 (Option.some FieldType.boolean) (rmO 3 0 0 66) [.ref x] [(x, .inr (11, [.ref (q 1), .ref (q 2), .int (iZ pm), .ref (q 3), .int (iZ ty), .int (iZ ap), .int (iZ fo), .int (iZ wr), .ref (q 4), .ref (q 5), .ref (q 6), .ref (q 7), .ref (q 8), .ref (q 9), .ref (q 10), .int (iZ rm), .ref (q 11), .ref (q 12), .int (iZ hm), .ref (q 13), .ref (q 14), .ref (q 15), .ref (q 16), .int (iZ sb), .int (iZ be), .ref (q 17), .ref (q 18)])), ((q 3), .inl (G.2 0, 60, .inl (iF tx))), ((q 4), .inl (G.2 0, 12, .inl (iF kd)))] (Det (some (.int (iZ (wdX tx ty ap).2))) [(x, .inr (11, [.ref (q 1), .ref (q 2), .int (iZ pm), .ref (q 3), .int (iZ ty), .int (iZ (wdX tx ty ap).1), .int (iZ fo), .int (iZ wr), .ref (q 4), .ref (q 5), .ref (q 6), .ref (q 7), .ref (q 8), .ref (q 9), .ref (q 10), .int (iZ rm), .ref (q 11), .ref (q 12), .int (iZ hm), .ref (q 13), .ref (q 14), .ref (q 15), .ref (q 16), .int (iZ sb), .int (iZ be), .ref (q 17), .ref (q 18)])), ((q 3), .inl (G.2 0, 60, .inl (iF tx))), ((q 4), .inl (G.2 0, 12, .inl (iF (zup kd (fo % 12) (wkK tx ty ap)))))]) := by
  refine Ctr.go (own := RX12) (nm := "word") (by decide +kernel) rfl rfl [some (.ref x), none, none] 2 rfl rfl (Nat.le_of_ble_eq_true rfl) ?_
  intro K h hF
  have hc1 := hc.1
  have hga := sg_R hc ap
  have hz := sgM_sp (sgF tx ty ap)
  have hgb := sg_R hc (ap + 1)
  have hzb := sgM_sp (sgF tx ty (ap + 1))
  have hN := wdN_R hc ha
  have J162 : ∀ (e b k : Int), wdN tx ty ap = (e, b) ∧ k = wkK tx ty ap → V K (0, 0) 162 [some (.ref x), some (.int (iZ k)), some (.int (iZ b))] [] [(x, .inr (11, [.ref (q 1), .ref (q 2), .int (iZ pm), .ref (q 3), .int (iZ ty), .int (iZ e), .int (iZ fo), .int (iZ wr), .ref (q 4), .ref (q 5), .ref (q 6), .ref (q 7), .ref (q 8), .ref (q 9), .ref (q 10), .int (iZ rm), .ref (q 11), .ref (q 12), .int (iZ hm), .ref (q 13), .ref (q 14), .ref (q 15), .ref (q 16), .int (iZ sb), .int (iZ be), .ref (q 17), .ref (q 18)])), ((q 3), .inl (G.2 0, 60, .inl (iF tx))), ((q 4), .inl (G.2 0, 12, .inl (iF kd)))] := by
    intro e b k hJ162
    obtain ⟨hw, hk⟩ := hJ162
    rw [hw] at hN
    have hN1 := hN.1
    have hN2 := hN.2.1
    dsimp only at hN1 hN2
    have hge := sg_R hc e
    subst hk
    refine V_aload_n h (dk dd_X12_word_1 34 rfl) rfl get0 ?_
    refine V_get h fl_X12_19 0 get0 get8 (dk dd_X12_word_1 35 rfl) ?_
    refine V_aload_n h (dk dd_X12_word_1 36 rfl) rfl get0 ?_
    refine V_get h fl_X12_113 0 get0 get6 (dk dd_X12_word_1 37 rfl) ?_
    refine V_bipush h (dk dd_X12_word_1 38 rfl) (by decide) ?_
    refine V_iremP h (dk dd_X12_word_1 39 rfl) (by omega) ?_
    refine V_iload_n h (dk dd_X12_word_1 40 rfl) rfl get1 ?_
    refine V_iast h 2 get2 (by omega) set2 (dk dd_X12_word_1 41 rfl) ?_
    refine V_iload_n h (dk dd_X12_word_1 42 rfl) rfl get2 ?_
    refine V_if_eq (tgt := 192) h (dk dd_X12_word_1 43 rfl) rfl (by omega) (fun c176 => ?_) (fun c176 => ?_)
    · refine V_iconst h (dk dd_X12_word_2 0 rfl) ?_
      refine V_zret h hF (dk dd_X12_word_2 1 rfl) ⟨Nat.le_of_ble_eq_true rfl, Nat.le_of_ble_eq_true rfl⟩ (by first | exact Or.inr rfl | exact Or.inl rfl | exact bZ_01 | omega) ?_
      rw [show wdX tx ty ap = (e, b) by unfold wdX; rw [hw]; exact if_pos c176]
      exact det_i (by dsimp only; omega) rfl
    · refine V_aload_n h (dk dd_X12_word_1 44 rfl) rfl get0 ?_
      refine V_bipush h (dk dd_X12_word_1 45 rfl) (by decide) ?_
      refine V_callV h st2 ci_X12_106 (pk_c get0 (pk_c get1 pk_n)) rfl 0 get0 rfl (m_X12_takes l G _ _ _ _ _ _ _ _ _ _ _ _ _ (hc) (by omega) (by omega)) rfl rfl (Nat.le_of_ble_eq_true rfl) (by decide) ⟨rfl, rfl, rfl⟩ (dk dd_X12_word_1 46 rfl) sk1 (sm_c set0 (sm_c set1 sm_n)) ?_
      refine V_ifz_eq (tgt := 192) h (dk dd_X12_word_1 47 rfl) rfl (fun c185 => ?_) (fun c185 => ?_)
      · refine V_iconst h (dk dd_X12_word_2 0 rfl) ?_
        refine V_zret h hF (dk dd_X12_word_2 1 rfl) ⟨Nat.le_of_ble_eq_true rfl, Nat.le_of_ble_eq_true rfl⟩ (by first | exact Or.inr rfl | exact Or.inl rfl | exact bZ_01 | omega) ?_
        rw [show wdX tx ty ap = (e, 0) by unfold wdX; rw [hw]; exact (if_neg c176).trans (if_neg c185), tk1_n c185]
        exact det_i rfl rfl
      · refine V_iconst h (dk dd_X12_word_1 48 rfl) ?_
        refine V_goto (tgt := 193) h (dk dd_X12_word_1 49 rfl) rfl ?_
        refine V_zret h hF (dk dd_X12_word_2 1 rfl) ⟨Nat.le_of_ble_eq_true rfl, Nat.le_of_ble_eq_true rfl⟩ (by first | exact Or.inr rfl | exact Or.inl rfl | exact bZ_01 | omega) ?_
        rw [show wdX tx ty ap = (e + 1, 1) by unfold wdX; rw [hw]; exact (if_neg c176).trans (if_pos c185), tk1_y c185]
        exact det_i rfl rfl
  refine V_iconst h (dk dd_X12_word_0 0 rfl) ?_
  refine V_istore_n h (dk dd_X12_word_0 1 rfl) rfl (Nat.le_of_ble_eq_true rfl) rfl set1 ?_
  refine V_iconst h (dk dd_X12_word_0 2 rfl) ?_
  refine V_istore_n h (dk dd_X12_word_0 3 rfl) rfl (Nat.le_of_ble_eq_true rfl) rfl set2 ?_
  refine V_aload_n h (dk dd_X12_word_0 4 rfl) rfl get0 ?_
  refine V_bipush h (dk dd_X12_word_0 5 rfl) (by decide) ?_
  refine V_callV h st2 ci_X12_106 (pk_c get0 (pk_c get1 pk_n)) rfl 0 get0 rfl (m_X12_takes l G _ _ _ _ _ _ _ _ _ _ _ _ _ (hc) (by omega) (by omega)) rfl rfl (Nat.le_of_ble_eq_true rfl) (by decide) ⟨rfl, rfl, rfl⟩ (dk dd_X12_word_0 6 rfl) sk1 (sm_c set0 (sm_c set1 sm_n)) ?_
  refine V_ifz_eq (tgt := 84) h (dk dd_X12_word_0 7 rfl) rfl (fun c10 => ?_) (fun c10 => ?_)
  · rw [tk1_n c10]
    refine V_aload_n h (dk dd_X12_word_0 43 rfl) rfl get0 ?_
    refine V_callV h st1 ci_X12_102 (pk_c get0 (pk_c get1 pk_n)) rfl 0 get0 rfl (m_X12_sign l G _ _ _ _ _ _ _ _ _ _ _ _ (hc) (by omega)) rfl rfl (Nat.le_of_ble_eq_true rfl) (by decide) ⟨rfl, rfl, rfl⟩ (dk dd_X12_word_0 44 rfl) sk1 (sm_c set0 (sm_c set1 sm_n)) ?_
    refine V_bipush h (dk dd_X12_word_0 45 rfl) (by decide) ?_
    refine V_icmp_ne (tgt := 111) h (dk dd_X12_word_0 46 rfl) rfl (by omega) (fun c90 => ?_) (fun c90 => ?_)
    · refine V_aload_n h (dk dd_X12_word_1 7 rfl) rfl get0 ?_
      refine V_callV h st1 ci_X12_102 (pk_c get0 (pk_c get1 pk_n)) rfl 0 get0 rfl (m_X12_sign l G _ _ _ _ _ _ _ _ _ _ _ _ (hc) (by omega)) rfl rfl (Nat.le_of_ble_eq_true rfl) (by decide) ⟨rfl, rfl, rfl⟩ (dk dd_X12_word_1 8 rfl) sk1 (sm_c set0 (sm_c set1 sm_n)) ?_
      refine V_bipush h (dk dd_X12_word_1 9 rfl) (by decide) ?_
      refine V_icmp_ne (tgt := 138) h (dk dd_X12_word_1 10 rfl) rfl (by omega) (fun c117 => ?_) (fun c117 => ?_)
      · refine V_aload_n h (dk dd_X12_word_1 21 rfl) rfl get0 ?_
        refine V_callV h st1 ci_X12_102 (pk_c get0 (pk_c get1 pk_n)) rfl 0 get0 rfl (m_X12_sign l G _ _ _ _ _ _ _ _ _ _ _ _ (hc) (by omega)) rfl rfl (Nat.le_of_ble_eq_true rfl) (by decide) ⟨rfl, rfl, rfl⟩ (dk dd_X12_word_1 22 rfl) sk1 (sm_c set0 (sm_c set1 sm_n)) ?_
        refine V_bipush h (dk dd_X12_word_1 23 rfl) (by decide) ?_
        refine V_icmp_ne (tgt := 162) h (dk dd_X12_word_1 24 rfl) rfl (by omega) (fun c144 => ?_) (fun c144 => ?_)
        · exact J162 _ _ _ ⟨by unfold wdN; exact (if_neg c10).trans ((if_neg (by omega)).trans ((if_neg (by omega)).trans (if_neg (by omega)))), by unfold wkK; exact ((if_neg c10).trans ((if_neg (by omega)).trans ((if_neg (by omega)).trans (if_neg (by omega))))).symm⟩
        · refine V_iconst h (dk dd_X12_word_1 25 rfl) ?_
          refine V_istore_n h (dk dd_X12_word_1 26 rfl) rfl (Nat.le_of_ble_eq_true rfl) rfl set1 ?_
          refine V_aload_n h (dk dd_X12_word_1 27 rfl) rfl get0 ?_
          refine V_bipush h (dk dd_X12_word_1 28 rfl) (by decide) ?_
          refine V_bipush h (dk dd_X12_word_1 29 rfl) (by decide) ?_
          refine V_bipush h (dk dd_X12_word_1 30 rfl) (by decide) ?_
          refine V_bipush h (dk dd_X12_word_1 31 rfl) (by decide) ?_
          refine V_callV h st5 ci_X12_109 (pk_c get0 (pk_c get1 pk_n)) rfl 0 get0 rfl (m_X12_four l G _ _ _ _ _ _ _ _ _ _ _ _ _ _ _ _ (hc) (by omega) (by omega) (by omega) (by omega) (by omega)) rfl rfl (Nat.le_of_ble_eq_true rfl) (by decide) ⟨rfl, rfl, rfl⟩ (dk dd_X12_word_1 32 rfl) sk1 (sm_c set0 (sm_c set1 sm_n)) ?_
          refine V_istore_n h (dk dd_X12_word_1 33 rfl) rfl (Nat.le_of_ble_eq_true rfl) rfl set2 ?_
          exact J162 _ _ _ ⟨by unfold wdN; exact (if_neg c10).trans ((if_neg (by omega)).trans ((if_neg (by omega)).trans (if_pos (by omega)))), by unfold wkK; exact ((if_neg c10).trans ((if_neg (by omega)).trans ((if_neg (by omega)).trans (if_pos (by omega))))).symm⟩
      · refine V_iconst h (dk dd_X12_word_1 11 rfl) ?_
        refine V_istore_n h (dk dd_X12_word_1 12 rfl) rfl (Nat.le_of_ble_eq_true rfl) rfl set1 ?_
        refine V_aload_n h (dk dd_X12_word_1 13 rfl) rfl get0 ?_
        refine V_bipush h (dk dd_X12_word_1 14 rfl) (by decide) ?_
        refine V_bipush h (dk dd_X12_word_1 15 rfl) (by decide) ?_
        refine V_bipush h (dk dd_X12_word_1 16 rfl) (by decide) ?_
        refine V_bipush h (dk dd_X12_word_1 17 rfl) (by decide) ?_
        refine V_callV h st5 ci_X12_109 (pk_c get0 (pk_c get1 pk_n)) rfl 0 get0 rfl (m_X12_four l G _ _ _ _ _ _ _ _ _ _ _ _ _ _ _ _ (hc) (by omega) (by omega) (by omega) (by omega) (by omega)) rfl rfl (Nat.le_of_ble_eq_true rfl) (by decide) ⟨rfl, rfl, rfl⟩ (dk dd_X12_word_1 18 rfl) sk1 (sm_c set0 (sm_c set1 sm_n)) ?_
        refine V_istore_n h (dk dd_X12_word_1 19 rfl) rfl (Nat.le_of_ble_eq_true rfl) rfl set2 ?_
        refine V_goto (tgt := 162) h (dk dd_X12_word_1 20 rfl) rfl ?_
        exact J162 _ _ _ ⟨by unfold wdN; exact (if_neg c10).trans ((if_neg (by omega)).trans (if_pos (by omega))), by unfold wkK; exact ((if_neg c10).trans ((if_neg (by omega)).trans (if_pos (by omega)))).symm⟩
    · refine V_iconst h (dk dd_X12_word_0 47 rfl) ?_
      refine V_istore_n h (dk dd_X12_word_0 48 rfl) rfl (Nat.le_of_ble_eq_true rfl) rfl set1 ?_
      refine V_aload_n h (dk dd_X12_word_0 49 rfl) rfl get0 ?_
      refine V_bipush h (dk dd_X12_word_1 0 rfl) (by decide) ?_
      refine V_bipush h (dk dd_X12_word_1 1 rfl) (by decide) ?_
      refine V_bipush h (dk dd_X12_word_1 2 rfl) (by decide) ?_
      refine V_bipush h (dk dd_X12_word_1 3 rfl) (by decide) ?_
      refine V_callV h st5 ci_X12_109 (pk_c get0 (pk_c get1 pk_n)) rfl 0 get0 rfl (m_X12_four l G _ _ _ _ _ _ _ _ _ _ _ _ _ _ _ _ (hc) (by omega) (by omega) (by omega) (by omega) (by omega)) rfl rfl (Nat.le_of_ble_eq_true rfl) (by decide) ⟨rfl, rfl, rfl⟩ (dk dd_X12_word_1 4 rfl) sk1 (sm_c set0 (sm_c set1 sm_n)) ?_
      refine V_istore_n h (dk dd_X12_word_1 5 rfl) rfl (Nat.le_of_ble_eq_true rfl) rfl set2 ?_
      refine V_goto (tgt := 162) h (dk dd_X12_word_1 6 rfl) rfl ?_
      exact J162 _ _ _ ⟨by unfold wdN; exact (if_neg c10).trans (if_pos (by omega)), by unfold wkK; exact ((if_neg c10).trans (if_pos (by omega))).symm⟩
  · rw [tk1_y c10]
    have hlc10 := (sg_R hc (ap)).2.2 (by omega)
    refine V_aload_n h (dk dd_X12_word_0 8 rfl) rfl get0 ?_
    refine V_callV h st1 ci_X12_102 (pk_c get0 (pk_c get1 pk_n)) rfl 0 get0 rfl (m_X12_sign l G _ _ _ _ _ _ _ _ _ _ _ _ (hc) (by omega)) rfl rfl (Nat.le_of_ble_eq_true rfl) (by decide) ⟨rfl, rfl, rfl⟩ (dk dd_X12_word_0 9 rfl) sk1 (sm_c set0 (sm_c set1 sm_n)) ?_
    refine V_bipush h (dk dd_X12_word_0 10 rfl) (by decide) ?_
    refine V_icmp_ne (tgt := 26) h (dk dd_X12_word_0 11 rfl) rfl (by omega) (fun c19 => ?_) (fun c19 => ?_)
    · refine V_iconst h (dk dd_X12_word_0 14 rfl) ?_
      refine V_istore_n h (dk dd_X12_word_0 15 rfl) rfl (Nat.le_of_ble_eq_true rfl) rfl set1 ?_
      refine V_iload_n h (dk dd_X12_word_0 16 rfl) rfl get1 ?_
      refine V_iconst h (dk dd_X12_word_0 17 rfl) ?_
      refine V_icmp_ne (tgt := 48) h (dk dd_X12_word_0 18 rfl) rfl (by omega) (fun c30 => ?_) (fun c30 => ?_)
      · refine V_aload_n h (dk dd_X12_word_0 26 rfl) rfl get0 ?_
        refine V_bipush h (dk dd_X12_word_0 27 rfl) (by decide) ?_
        refine V_callV h st2 ci_X12_106 (pk_c get0 (pk_c get1 pk_n)) rfl 0 get0 rfl (m_X12_takes l G _ _ _ _ _ _ _ _ _ _ _ _ _ (hc) (by omega) (by omega)) rfl rfl (Nat.le_of_ble_eq_true rfl) (by decide) ⟨rfl, rfl, rfl⟩ (dk dd_X12_word_0 28 rfl) sk1 (sm_c set0 (sm_c set1 sm_n)) ?_
        refine V_ifz_eq (tgt := 79) h (dk dd_X12_word_0 29 rfl) rfl (fun c54 => ?_) (fun c54 => ?_)
        · refine V_iconst h (dk dd_X12_word_0 40 rfl) ?_
          refine V_istore_n h (dk dd_X12_word_0 41 rfl) rfl (Nat.le_of_ble_eq_true rfl) rfl set2 ?_
          refine V_goto (tgt := 162) h (dk dd_X12_word_0 42 rfl) rfl ?_
          rw [tk1_n c54]
          exact J162 _ _ _ ⟨by unfold wdN; exact (if_pos c10).trans ((if_neg (by omega)).trans (f3_a c54)), by unfold wkK; exact ((if_pos c10).trans (if_neg (by omega))).symm⟩
        · rw [tk1_y c54]
          have hlc54 := (sg_R hc (ap + 1)).2.2 (by omega)
          refine V_aload_n h (dk dd_X12_word_0 30 rfl) rfl get0 ?_
          refine V_bipush h (dk dd_X12_word_0 31 rfl) (by decide) ?_
          refine V_callV h st2 ci_X12_106 (pk_c get0 (pk_c get1 pk_n)) rfl 0 get0 rfl (m_X12_takes l G _ _ _ _ _ _ _ _ _ _ _ _ _ (hc) (by omega) (by omega)) rfl rfl (Nat.le_of_ble_eq_true rfl) (by decide) ⟨rfl, rfl, rfl⟩ (dk dd_X12_word_0 32 rfl) sk1 (sm_c set0 (sm_c set1 sm_n)) ?_
          refine V_ifz_eq (tgt := 79) h (dk dd_X12_word_0 33 rfl) rfl (fun c63 => ?_) (fun c63 => ?_)
          · refine V_iconst h (dk dd_X12_word_0 40 rfl) ?_
            refine V_istore_n h (dk dd_X12_word_0 41 rfl) rfl (Nat.le_of_ble_eq_true rfl) rfl set2 ?_
            refine V_goto (tgt := 162) h (dk dd_X12_word_0 42 rfl) rfl ?_
            rw [tk1_n c63]
            exact J162 _ _ _ ⟨by unfold wdN; exact (if_pos c10).trans ((if_neg (by omega)).trans (f3_b c54 c63)), by unfold wkK; exact ((if_pos c10).trans (if_neg (by omega))).symm⟩
          · rw [tk1_y c63]
            have hlc63 := (sg_R hc (ap + 1 + 1)).2.2 (by omega)
            refine V_aload_n h (dk dd_X12_word_0 34 rfl) rfl get0 ?_
            refine V_bipush h (dk dd_X12_word_0 35 rfl) (by decide) ?_
            refine V_callV h st2 ci_X12_106 (pk_c get0 (pk_c get1 pk_n)) rfl 0 get0 rfl (m_X12_takes l G _ _ _ _ _ _ _ _ _ _ _ _ _ (hc) (by omega) (by omega)) rfl rfl (Nat.le_of_ble_eq_true rfl) (by decide) ⟨rfl, rfl, rfl⟩ (dk dd_X12_word_0 36 rfl) sk1 (sm_c set0 (sm_c set1 sm_n)) ?_
            refine V_ifz_eq (tgt := 79) h (dk dd_X12_word_0 37 rfl) rfl (fun c72 => ?_) (fun c72 => ?_)
            · refine V_iconst h (dk dd_X12_word_0 40 rfl) ?_
              refine V_istore_n h (dk dd_X12_word_0 41 rfl) rfl (Nat.le_of_ble_eq_true rfl) rfl set2 ?_
              refine V_goto (tgt := 162) h (dk dd_X12_word_0 42 rfl) rfl ?_
              rw [tk1_n c72]
              exact J162 _ _ _ ⟨by unfold wdN; exact (if_pos c10).trans ((if_neg (by omega)).trans (f3_c c54 c63 c72)), by unfold wkK; exact ((if_pos c10).trans (if_neg (by omega))).symm⟩
            · rw [tk1_y c72]
              have hlc72 := (sg_R hc (ap + 1 + 1 + 1)).2.2 (by omega)
              refine V_iconst h (dk dd_X12_word_0 38 rfl) ?_
              refine V_goto (tgt := 80) h (dk dd_X12_word_0 39 rfl) rfl ?_
              refine V_istore_n h (dk dd_X12_word_0 41 rfl) rfl (Nat.le_of_ble_eq_true rfl) rfl set2 ?_
              refine V_goto (tgt := 162) h (dk dd_X12_word_0 42 rfl) rfl ?_
              exact J162 _ _ _ ⟨by unfold wdN; exact (if_pos c10).trans ((if_neg (by omega)).trans (f3_d c54 c63 c72)), by unfold wkK; exact ((if_pos c10).trans (if_neg (by omega))).symm⟩
      · exfalso; omega
    · refine V_iconst h (dk dd_X12_word_0 12 rfl) ?_
      refine V_goto (tgt := 27) h (dk dd_X12_word_0 13 rfl) rfl ?_
      refine V_istore_n h (dk dd_X12_word_0 15 rfl) rfl (Nat.le_of_ble_eq_true rfl) rfl set1 ?_
      refine V_iload_n h (dk dd_X12_word_0 16 rfl) rfl get1 ?_
      refine V_iconst h (dk dd_X12_word_0 17 rfl) ?_
      refine V_icmp_ne (tgt := 48) h (dk dd_X12_word_0 18 rfl) rfl (by omega) (fun c30_2 => ?_) (fun c30_2 => ?_)
      · exfalso; omega
      · refine V_aload_n h (dk dd_X12_word_0 19 rfl) rfl get0 ?_
        refine V_bipush h (dk dd_X12_word_0 20 rfl) (by decide) ?_
        refine V_bipush h (dk dd_X12_word_0 21 rfl) (by decide) ?_
        refine V_bipush h (dk dd_X12_word_0 22 rfl) (by decide) ?_
        refine V_bipush h (dk dd_X12_word_0 23 rfl) (by decide) ?_
        refine V_callV h st5 ci_X12_109 (pk_c get0 (pk_c get1 pk_n)) rfl 0 get0 rfl (m_X12_four l G _ _ _ _ _ _ _ _ _ _ _ _ _ _ _ _ (hc) (by omega) (by omega) (by omega) (by omega) (by omega)) rfl rfl (Nat.le_of_ble_eq_true rfl) (by decide) ⟨rfl, rfl, rfl⟩ (dk dd_X12_word_0 24 rfl) sk1 (sm_c set0 (sm_c set1 sm_n)) ?_
        refine V_goto (tgt := 80) h (dk dd_X12_word_0 25 rfl) rfl ?_
        refine V_istore_n h (dk dd_X12_word_0 41 rfl) rfl (Nat.le_of_ble_eq_true rfl) rfl set2 ?_
        refine V_goto (tgt := 162) h (dk dd_X12_word_0 42 rfl) rfl ?_
        exact J162 _ _ _ ⟨by unfold wdN; exact (if_pos c10).trans (if_pos (by omega)), by unfold wkK; exact ((if_pos c10).trans (if_pos (by omega))).symm⟩

set_option maxHeartbeats 4000000 in
set_option maxRecDepth 100000 in
theorem m_X12_number (l : Launch) (G : GT) (x : Nat) (q : Nat → Nat) (pm ty ap fo wr rm hm sb be : Int) (tx : Int → Int) (nb : Int → Int) (wh lo hi ng : Int) (hc : ChOK tx ty) (ha : 0 ≤ ap ∧ ap ≤ ty) (hf : 0 ≤ fo ∧ fo ≤ 100) (hwr : -1 ≤ wr ∧ wr ≤ ty) (hwh : 0 ≤ wh ∧ wh ≤ 2) (hlo : 0 ≤ lo ∧ lo ≤ 1) (hhi : 0 ≤ hi ∧ hi ≤ 30000) (hng : Z01 ng) : Ctr l G yX12_number cX12_number 8 (Option.some FieldType.boolean) (rmO 1 0 0 22) [.ref x, .int (iZ wh), .int (iZ lo), .int (iZ hi), .int (iZ ng)] [(x, .inr (11, [.ref (q 1), .ref (q 2), .int (iZ pm), .ref (q 3), .int (iZ ty), .int (iZ ap), .int (iZ fo), .int (iZ wr), .ref (q 4), .ref (q 5), .ref (q 6), .ref (q 7), .ref (q 8), .ref (q 9), .ref (q 10), .int (iZ rm), .ref (q 11), .ref (q 12), .int (iZ hm), .ref (q 13), .ref (q 14), .ref (q 15), .ref (q 16), .int (iZ sb), .int (iZ be), .ref (q 17), .ref (q 18)])), ((q 3), .inl (G.2 0, 60, .inl (iF tx))), ((q 5), .inl (G.2 0, 36, .inl (iF nb)))] (Det (some (.int (iZ (bZ (ap < nuE tx ty ap))))) [(x, .inr (11, [.ref (q 1), .ref (q 2), .int (iZ pm), .ref (q 3), .int (iZ ty), .int (iZ (nuE tx ty ap)), .int (iZ fo), .int (iZ (nuW tx ty lo hi ap wr)), .ref (q 4), .ref (q 5), .ref (q 6), .ref (q 7), .ref (q 8), .ref (q 9), .ref (q 10), .int (iZ rm), .ref (q 11), .ref (q 12), .int (iZ hm), .ref (q 13), .ref (q 14), .ref (q 15), .ref (q 16), .int (iZ sb), .int (iZ be), .ref (q 17), .ref (q 18)])), ((q 3), .inl (G.2 0, 60, .inl (iF tx))), ((q 5), .inl (G.2 0, 36, .inl (iF (nuB tx ty fo wh ng ap nb))))]) := by
  refine Ctr.go (own := RX12) (nm := "number") (by decide +kernel) rfl rfl [some (.ref x), some (.int (iZ wh)), some (.int (iZ lo)), some (.int (iZ hi)), some (.int (iZ ng)), none, none, none] 3 rfl rfl (Nat.le_of_ble_eq_true rfl) ?_
  intro K h hF
  have hc1 := hc.1
  refine V_aload_n h (dk dd_X12_number_0 0 rfl) rfl get0 ?_
  refine V_get h fl_X12_99 0 get0 get5 (dk dd_X12_number_0 1 rfl) ?_
  refine V_istore h (dk dd_X12_number_0 2 rfl) (Nat.le_of_ble_eq_true rfl) rfl set5 ?_
  refine V_iconst h (dk dd_X12_number_0 3 rfl) ?_
  refine V_istore h (dk dd_X12_number_0 4 rfl) (Nat.le_of_ble_eq_true rfl) rfl set6 ?_
  refine V_iconst h (dk dd_X12_number_0 5 rfl) ?_
  refine V_istore h (dk dd_X12_number_0 6 rfl) (Nat.le_of_ble_eq_true rfl) rfl set7 ?_
  have L12 : ∀ (fu : Nat) (a2 y n : Int), n = a2 - ap ∧ ap ≤ a2 ∧ a2 ≤ ap + 5 ∧ a2 ≤ ty ∧ dgJ tx ty 5 ap 0 = dgJ tx ty (5 - n).toNat a2 y → (5 - n).toNat < fu → V K (0, 0) 12 [some (.ref x), some (.int (iZ wh)), some (.int (iZ lo)), some (.int (iZ hi)), some (.int (iZ ng)), some (.int (iZ ap)), some (.int (iZ n)), some (.int (iZ y))] [] [(x, .inr (11, [.ref (q 1), .ref (q 2), .int (iZ pm), .ref (q 3), .int (iZ ty), .int (iZ a2), .int (iZ fo), .int (iZ wr), .ref (q 4), .ref (q 5), .ref (q 6), .ref (q 7), .ref (q 8), .ref (q 9), .ref (q 10), .int (iZ rm), .ref (q 11), .ref (q 12), .int (iZ hm), .ref (q 13), .ref (q 14), .ref (q 15), .ref (q 16), .int (iZ sb), .int (iZ be), .ref (q 17), .ref (q 18)])), ((q 3), .inl (G.2 0, 60, .inl (iF tx))), ((q 5), .inl (G.2 0, 36, .inl (iF nb)))] := by
    intro fu
    induction fu with
    | zero => intro a2 y n _ hm; exact absurd hm (Nat.not_lt_zero _)
    | succ fu ih12 =>
      intro a2 y n hI12 hm12
      have hg2 := sg_R hc a2
      have hz2 := sgM_sp (sgF tx ty a2)
      have J63 : ∀ (a2 y n : Int), (a2, y) = dgJ tx ty 5 ap 0 ∧ n = a2 - ap → V K (0, 0) 63 [some (.ref x), some (.int (iZ wh)), some (.int (iZ lo)), some (.int (iZ hi)), some (.int (iZ ng)), some (.int (iZ ap)), some (.int (iZ n)), some (.int (iZ y))] [] [(x, .inr (11, [.ref (q 1), .ref (q 2), .int (iZ pm), .ref (q 3), .int (iZ ty), .int (iZ a2), .int (iZ fo), .int (iZ wr), .ref (q 4), .ref (q 5), .ref (q 6), .ref (q 7), .ref (q 8), .ref (q 9), .ref (q 10), .int (iZ rm), .ref (q 11), .ref (q 12), .int (iZ hm), .ref (q 13), .ref (q 14), .ref (q 15), .ref (q 16), .int (iZ sb), .int (iZ be), .ref (q 17), .ref (q 18)])), ((q 3), .inl (G.2 0, 60, .inl (iF tx))), ((q 5), .inl (G.2 0, 36, .inl (iF nb)))] := by
        intro a2 y n hJ63
        obtain ⟨hd, hn⟩ := hJ63
        have hE : nuE tx ty ap = a2 := congrArg Prod.fst hd.symm
        have hV : nuV tx ty ap = y := congrArg Prod.snd hd.symm
        have hR := nu_R hc ha
        rw [hE, hV] at hR
        subst hn
        have J95 : ∀ (w : Int), w = nuW tx ty lo hi ap wr → V K (0, 0) 95 [some (.ref x), some (.int (iZ wh)), some (.int (iZ lo)), some (.int (iZ hi)), some (.int (iZ ng)), some (.int (iZ ap)), some (.int (iZ (a2 - ap))), some (.int (iZ y))] [.int (iZ w), .ref x] [(x, .inr (11, [.ref (q 1), .ref (q 2), .int (iZ pm), .ref (q 3), .int (iZ ty), .int (iZ a2), .int (iZ fo), .int (iZ wr), .ref (q 4), .ref (q 5), .ref (q 6), .ref (q 7), .ref (q 8), .ref (q 9), .ref (q 10), .int (iZ rm), .ref (q 11), .ref (q 12), .int (iZ hm), .ref (q 13), .ref (q 14), .ref (q 15), .ref (q 16), .int (iZ sb), .int (iZ be), .ref (q 17), .ref (q 18)])), ((q 3), .inl (G.2 0, 60, .inl (iF tx))), ((q 5), .inl (G.2 0, 36, .inl (iF nb)))] := by
          intro w hJ95
          have J126 : ∀ (v : Int), (v = if ng = 0 then y else -y) → V K (0, 0) 126 [some (.ref x), some (.int (iZ wh)), some (.int (iZ lo)), some (.int (iZ hi)), some (.int (iZ ng)), some (.int (iZ ap)), some (.int (iZ (a2 - ap))), some (.int (iZ y))] [.int (iZ v), .int (iZ (3 * (fo % 12) + wh)), .ref (q 5)] [(x, .inr (11, [.ref (q 1), .ref (q 2), .int (iZ pm), .ref (q 3), .int (iZ ty), .int (iZ a2), .int (iZ fo), .int (iZ w), .ref (q 4), .ref (q 5), .ref (q 6), .ref (q 7), .ref (q 8), .ref (q 9), .ref (q 10), .int (iZ rm), .ref (q 11), .ref (q 12), .int (iZ hm), .ref (q 13), .ref (q 14), .ref (q 15), .ref (q 16), .int (iZ sb), .int (iZ be), .ref (q 17), .ref (q 18)])), ((q 3), .inl (G.2 0, 60, .inl (iF tx))), ((q 5), .inl (G.2 0, 36, .inl (iF nb)))] := by
            intro v hJ126
            refine V_iast h 2 get2 (by omega) set2 (dk dd_X12_number_1 15 rfl) ?_
            refine V_iload h (dk dd_X12_number_1 16 rfl) get6 ?_
            refine V_if_le (tgt := 136) h (dk dd_X12_number_1 17 rfl) rfl (by omega) (fun c129 => ?_) (fun c129 => ?_)
            · refine V_iconst h (dk dd_X12_number_1 20 rfl) ?_
              refine V_zret h hF (dk dd_X12_number_1 21 rfl) ⟨Nat.le_of_ble_eq_true rfl, Nat.le_of_ble_eq_true rfl⟩ (by first | exact Or.inr rfl | exact Or.inl rfl | exact bZ_01 | omega) ?_
              unfold nuB
              rw [hE, hV, ← hJ95, ← hJ126]
              first | exact det_i (bZ_t (by omega)).symm rfl | exact det_i (bZ_f (by omega)).symm rfl
            · refine V_iconst h (dk dd_X12_number_1 18 rfl) ?_
              refine V_goto (tgt := 137) h (dk dd_X12_number_1 19 rfl) rfl ?_
              refine V_zret h hF (dk dd_X12_number_1 21 rfl) ⟨Nat.le_of_ble_eq_true rfl, Nat.le_of_ble_eq_true rfl⟩ (by first | exact Or.inr rfl | exact Or.inl rfl | exact bZ_01 | omega) ?_
              unfold nuB
              rw [hE, hV, ← hJ95, ← hJ126]
              first | exact det_i (bZ_t (by omega)).symm rfl | exact det_i (bZ_f (by omega)).symm rfl
          refine V_put h pf_X12_116 0 get0 (Nat.le_of_ble_eq_true rfl) set7 set0 rfl rfl (dk dd_X12_number_0 48 rfl) ?_
          refine V_aload_n h (dk dd_X12_number_0 49 rfl) rfl get0 ?_
          refine V_get h fl_X12_22 0 get0 get9 (dk dd_X12_number_1 0 rfl) ?_
          refine V_iconst h (dk dd_X12_number_1 1 rfl) ?_
          refine V_aload_n h (dk dd_X12_number_1 2 rfl) rfl get0 ?_
          refine V_get h fl_X12_113 0 get0 get6 (dk dd_X12_number_1 3 rfl) ?_
          refine V_bipush h (dk dd_X12_number_1 4 rfl) (by decide) ?_
          refine V_iremP h (dk dd_X12_number_1 5 rfl) (by omega) ?_
          refine V_imul h (dk dd_X12_number_1 6 rfl) ?_
          refine V_iload_n h (dk dd_X12_number_1 7 rfl) rfl get1 ?_
          refine V_iadd h (dk dd_X12_number_1 8 rfl) ?_
          refine V_iload h (dk dd_X12_number_1 9 rfl) get4 ?_
          refine V_if_eq (tgt := 124) h (dk dd_X12_number_1 10 rfl) rfl (hng.R) (fun c115 => ?_) (fun c115 => ?_)
          · refine V_iload h (dk dd_X12_number_1 14 rfl) get7 ?_
            exact J126 _ (by rw [if_pos c115])
          · refine V_iload h (dk dd_X12_number_1 11 rfl) get7 ?_
            refine V_ineg h (dk dd_X12_number_1 12 rfl) ?_
            refine V_goto (tgt := 126) h (dk dd_X12_number_1 13 rfl) rfl ?_
            exact J126 _ (by rw [if_neg c115])
        refine V_aload_n h (dk dd_X12_number_0 33 rfl) rfl get0 ?_
        refine V_aload_n h (dk dd_X12_number_0 34 rfl) rfl get0 ?_
        refine V_get h fl_X12_116 0 get0 get7 (dk dd_X12_number_0 35 rfl) ?_
        refine V_if_ge (tgt := 91) h (dk dd_X12_number_0 36 rfl) rfl (by omega) (fun c68 => ?_) (fun c68 => ?_)
        · refine V_aload_n h (dk dd_X12_number_0 46 rfl) rfl get0 ?_
          refine V_get h fl_X12_116 0 get0 get7 (dk dd_X12_number_0 47 rfl) ?_
          exact J95 _ (by unfold nuW; rw [hE, hV, if_neg (by omega)])
        · refine V_iload h (dk dd_X12_number_0 37 rfl) get6 ?_
          refine V_if_le (tgt := 91) h (dk dd_X12_number_0 38 rfl) rfl (by omega) (fun c73 => ?_) (fun c73 => ?_)
          · refine V_aload_n h (dk dd_X12_number_0 46 rfl) rfl get0 ?_
            refine V_get h fl_X12_116 0 get0 get7 (dk dd_X12_number_0 47 rfl) ?_
            exact J95 _ (by unfold nuW; rw [hE, hV, if_neg (by omega)])
          · refine V_iload h (dk dd_X12_number_0 39 rfl) get7 ?_
            refine V_iload_n h (dk dd_X12_number_0 40 rfl) rfl get2 ?_
            refine V_iload_n h (dk dd_X12_number_0 41 rfl) rfl get3 ?_
            refine V_callS h st3 ci_X12_70 pk_n rfl (m_X12_in l G _ _ _ (by omega) (by omega) (by omega)) rfl rfl (Nat.le_of_ble_eq_true rfl) (by decide) ⟨rfl, rfl, rfl⟩ (dk dd_X12_number_0 42 rfl) sk1 sm_n ?_
            refine V_ifz_ne (tgt := 91) h (dk dd_X12_number_0 43 rfl) rfl (fun c83 => ?_) (fun c83 => ?_)
            · refine V_aload_n h (dk dd_X12_number_0 46 rfl) rfl get0 ?_
              refine V_get h fl_X12_116 0 get0 get7 (dk dd_X12_number_0 47 rfl) ?_
              exact J95 _ (by unfold nuW; rw [hE, hV, if_neg (fun q => q.2.2 c83)])
            · refine V_iload h (dk dd_X12_number_0 44 rfl) get5 ?_
              refine V_goto (tgt := 95) h (dk dd_X12_number_0 45 rfl) rfl ?_
              exact J95 _ (by unfold nuW; rw [hE, hV, if_pos ⟨by omega, by omega, c83⟩])
      refine V_iload h (dk dd_X12_number_0 7 rfl) get6 ?_
      refine V_iconst h (dk dd_X12_number_0 8 rfl) ?_
      refine V_icmp_ge (tgt := 63) h (dk dd_X12_number_0 9 rfl) rfl (by omega) (fun c15 => ?_) (fun c15 => ?_)
      · exact J63 _ _ _ ⟨by rw [hI12.2.2.2.2, show (5 - n).toNat = 0 by omega]; rfl, hI12.1⟩
      · refine V_aload_n h (dk dd_X12_number_0 10 rfl) rfl get0 ?_
        refine V_callV h st1 ci_X12_102 (pk_c get0 (pk_c get1 pk_n)) rfl 0 get0 rfl (m_X12_sign l G _ _ _ _ _ _ _ _ _ _ _ _ (hc) (by omega)) rfl rfl (Nat.le_of_ble_eq_true rfl) (by decide) ⟨rfl, rfl, rfl⟩ (dk dd_X12_number_0 11 rfl) sk1 (sm_c set0 (sm_c set1 sm_n)) ?_
        refine V_bipush h (dk dd_X12_number_0 12 rfl) (by decide) ?_
        refine V_bipush h (dk dd_X12_number_0 13 rfl) (by decide) ?_
        refine V_callS h st3 ci_X12_70 pk_n rfl (m_X12_in l G _ _ _ (by omega) (by omega) (by omega)) rfl rfl (Nat.le_of_ble_eq_true rfl) (by decide) ⟨rfl, rfl, rfl⟩ (dk dd_X12_number_0 14 rfl) sk1 sm_n ?_
        refine V_ifz_eq (tgt := 63) h (dk dd_X12_number_0 15 rfl) rfl (fun c29 => ?_) (fun c29 => ?_)
        · exact J63 _ _ _ ⟨by rw [hI12.2.2.2.2, show (5 - n).toNat = (4 - n).toNat + 1 by omega, dg_x _ (by omega)], hI12.1⟩
        · refine V_bipush h (dk dd_X12_number_0 16 rfl) (by decide) ?_
          refine V_iload h (dk dd_X12_number_0 17 rfl) get7 ?_
          refine V_imul h (dk dd_X12_number_0 18 rfl) ?_
          refine V_aload_n h (dk dd_X12_number_0 19 rfl) rfl get0 ?_
          refine V_callV h st1 ci_X12_102 (pk_c get0 (pk_c get1 pk_n)) rfl 0 get0 rfl (m_X12_sign l G _ _ _ _ _ _ _ _ _ _ _ _ (hc) (by omega)) rfl rfl (Nat.le_of_ble_eq_true rfl) (by decide) ⟨rfl, rfl, rfl⟩ (dk dd_X12_number_0 20 rfl) sk1 (sm_c set0 (sm_c set1 sm_n)) ?_
          refine V_iadd h (dk dd_X12_number_0 21 rfl) ?_
          refine V_bipush h (dk dd_X12_number_0 22 rfl) (by decide) ?_
          refine V_isub h (dk dd_X12_number_0 23 rfl) ?_
          rw [show 10 * y + sgM (sgF tx ty a2) - 48 = 10 * y + (sgF tx ty a2 - 48) by omega]
          refine V_istore h (dk dd_X12_number_0 24 rfl) (Nat.le_of_ble_eq_true rfl) rfl set7 ?_
          refine V_aload_n h (dk dd_X12_number_0 25 rfl) rfl get0 ?_
          refine V_dup h (dk dd_X12_number_0 26 rfl) rfl ?_
          refine V_get h fl_X12_99 0 get0 get5 (dk dd_X12_number_0 27 rfl) ?_
          refine V_iconst h (dk dd_X12_number_0 28 rfl) ?_
          refine V_iadd h (dk dd_X12_number_0 29 rfl) ?_
          refine V_put h pf_X12_99 0 get0 (Nat.le_of_ble_eq_true rfl) set5 set0 rfl rfl (dk dd_X12_number_0 30 rfl) ?_
          refine V_iinc h (dk dd_X12_number_0 31 rfl) get6 (Nat.le_of_ble_eq_true rfl) rfl set6 ?_
          refine V_goto (tgt := 12) h (dk dd_X12_number_0 32 rfl) rfl ?_
          exact ih12 _ _ _ (⟨by omega, by omega, by omega, by have := hg2.2.2 (by omega); omega, by rw [hI12.2.2.2.2, show (5 - n).toNat = (5 - (n + 1)).toNat + 1 by omega, dg_e _ (by omega)]⟩) (by omega)
  exact L12 _ ap 0 0 ⟨by omega, by omega, by omega, by omega, rfl⟩ (Nat.lt_succ_self _)

set_option maxHeartbeats 4000000 in
set_option maxRecDepth 100000 in
theorem m_X12_readsPart (l : Launch) (G : GT) (x : Nat) (q : Nat → Nat) (pm ty ap fo wr rm hm sb be : Int) (tx : Int → Int) (kd nb : Int → Int) (hc : ChOK tx ty) (ha : 0 ≤ ap ∧ ap ≤ ty) (hf : 0 ≤ fo ∧ fo ≤ 100) (hwr : -1 ≤ wr ∧ wr ≤ ty) : Ctr l G yX12_readsPart cX12_readsPart 3 (Option.some FieldType.boolean) (rmO 4 0 0 88) [.ref x] [(x, .inr (11, [.ref (q 1), .ref (q 2), .int (iZ pm), .ref (q 3), .int (iZ ty), .int (iZ ap), .int (iZ fo), .int (iZ wr), .ref (q 4), .ref (q 5), .ref (q 6), .ref (q 7), .ref (q 8), .ref (q 9), .ref (q 10), .int (iZ rm), .ref (q 11), .ref (q 12), .int (iZ hm), .ref (q 13), .ref (q 14), .ref (q 15), .ref (q 16), .int (iZ sb), .int (iZ be), .ref (q 17), .ref (q 18)])), ((q 3), .inl (G.2 0, 60, .inl (iF tx))), ((q 4), .inl (G.2 0, 12, .inl (iF kd))), ((q 5), .inl (G.2 0, 36, .inl (iF nb)))] (Det (some (.int (iZ (mr_M tx ty fo ap wr nb).1))) [(x, .inr (11, [.ref (q 1), .ref (q 2), .int (iZ pm), .ref (q 3), .int (iZ ty), .int (iZ (mr_M tx ty fo ap wr nb).2.1), .int (iZ fo), .int (iZ (mr_M tx ty fo ap wr nb).2.2.1), .ref (q 4), .ref (q 5), .ref (q 6), .ref (q 7), .ref (q 8), .ref (q 9), .ref (q 10), .int (iZ rm), .ref (q 11), .ref (q 12), .int (iZ hm), .ref (q 13), .ref (q 14), .ref (q 15), .ref (q 16), .int (iZ sb), .int (iZ be), .ref (q 17), .ref (q 18)])), ((q 3), .inl (G.2 0, 60, .inl (iF tx))), ((q 4), .inl (G.2 0, 12, .inl (iF (zup kd (fo % 12) (wkK tx ty ap))))), ((q 5), .inl (G.2 0, 36, .inl (iF (mr_M tx ty fo ap wr nb).2.2.2)))]) := by
  refine Ctr.go (own := RX12) (nm := "readsPart") (by decide +kernel) rfl rfl [some (.ref x), none, none] 2 rfl rfl (Nat.le_of_ble_eq_true rfl) ?_
  intro K h hF
  have hc1 := hc.1
  have hk := wk_R tx ty ap
  have q0 := wdX_R hc ha
  obtain ⟨r1, hr1⟩ : ∃ r, r = mr_1 tx ty fo ap wr nb := ⟨_, rfl⟩
  obtain ⟨r2, hr2⟩ : ∃ r, r = mr_2 tx ty fo ap wr nb := ⟨_, rfl⟩
  have q1 := nu_R (a := (wdX tx ty ap).1) hc (by omega)
  rw [show nuE tx ty (wdX tx ty ap).1 = r1.1 by rw [hr1]; rfl] at q1
  have w1 : -1 ≤ r1.2.1 ∧ r1.2.1 ≤ ty := by rw [hr1]; exact nuW_R (a := (wdX tx ty ap).1) (by omega) hwr
  have g1 := sg_R hc r1.1
  have g2 := sg_R hc r2.1
  have g3 := sg_R hc (r2.1 + 1)
  refine V_aload_n h (dk dd_X12_readsPart_0 0 rfl) rfl get0 ?_
  refine V_callV h st1 ci_X12_119 (pk_c get0 (pk_c get1 (pk_c get2 pk_n))) rfl 0 get0 rfl (m_X12_word l G _ _ _ _ _ _ _ _ _ _ _ _ _ (hc) (by omega) (by omega)) rfl rfl (Nat.le_of_ble_eq_true rfl) (by decide) ⟨rfl, rfl, rfl⟩ (dk dd_X12_readsPart_0 1 rfl) sk1 (sm_c set0 (sm_c set1 (sm_c set2 sm_n))) ?_
  refine V_if_ne (tgt := 9) h (dk dd_X12_readsPart_0 2 rfl) rfl (by omega) (fun c4 => ?_) (fun c4 => ?_)
  · refine V_aload_n h (dk dd_X12_readsPart_0 5 rfl) rfl get0 ?_
    refine V_get h fl_X12_19 0 get0 get8 (dk dd_X12_readsPart_0 6 rfl) ?_
    refine V_aload_n h (dk dd_X12_readsPart_0 7 rfl) rfl get0 ?_
    refine V_get h fl_X12_113 0 get0 get6 (dk dd_X12_readsPart_0 8 rfl) ?_
    refine V_bipush h (dk dd_X12_readsPart_0 9 rfl) (by decide) ?_
    refine V_iremP h (dk dd_X12_readsPart_0 10 rfl) (by omega) ?_
    refine V_iald h 2 get2 (by omega) (dk dd_X12_readsPart_0 11 rfl) ?_
    rw [zup_s]
    refine V_istore_n h (dk dd_X12_readsPart_0 12 rfl) rfl (Nat.le_of_ble_eq_true rfl) rfl set1 ?_
    refine V_aload_n h (dk dd_X12_readsPart_0 13 rfl) rfl get0 ?_
    refine V_get h fl_X12_22 0 get0 get9 (dk dd_X12_readsPart_0 14 rfl) ?_
    refine V_iconst h (dk dd_X12_readsPart_0 15 rfl) ?_
    refine V_aload_n h (dk dd_X12_readsPart_0 16 rfl) rfl get0 ?_
    refine V_get h fl_X12_113 0 get0 get6 (dk dd_X12_readsPart_0 17 rfl) ?_
    refine V_bipush h (dk dd_X12_readsPart_0 18 rfl) (by decide) ?_
    refine V_iremP h (dk dd_X12_readsPart_0 19 rfl) (by omega) ?_
    refine V_imul h (dk dd_X12_readsPart_0 20 rfl) ?_
    refine V_iconst h (dk dd_X12_readsPart_0 21 rfl) ?_
    refine V_iadd h (dk dd_X12_readsPart_0 22 rfl) ?_
    refine V_iconst h (dk dd_X12_readsPart_0 23 rfl) ?_
    refine V_iast h 3 get3 (by omega) set3 (dk dd_X12_readsPart_0 24 rfl) ?_
    refine V_aload_n h (dk dd_X12_readsPart_0 25 rfl) rfl get0 ?_
    refine V_iconst h (dk dd_X12_readsPart_0 26 rfl) ?_
    refine V_iconst h (dk dd_X12_readsPart_0 27 rfl) ?_
    refine V_sipush h (dk dd_X12_readsPart_0 28 rfl) (by decide) ?_
    refine V_iconst h (dk dd_X12_readsPart_0 29 rfl) ?_
    refine V_callV h st5 ci_X12_123 (pk_c get0 (pk_c get1 (pk_c get3 pk_n))) rfl 0 get0 rfl (m_X12_number l G _ _ _ _ _ _ _ _ _ _ _ _ _ _ _ _ _ (hc) (by omega) (by omega) (by omega) (by omega) (by omega) (by omega) (by omega)) rfl rfl (Nat.le_of_ble_eq_true rfl) (by decide) ⟨rfl, rfl, rfl⟩ (dk dd_X12_readsPart_0 30 rfl) sk1 (sm_c set0 (sm_c set1 (sm_c set3 sm_n))) ?_
    rw [show nuE tx ty (wdX tx ty ap).1 = r1.1 by rw [hr1]; rfl, show nuW tx ty 0 27719 (wdX tx ty ap).1 wr = r1.2.1 by rw [hr1]; rfl, show nuB tx ty fo 0 0 (wdX tx ty ap).1 (zup nb (3 * (fo % 12) + 2) 0) = r1.2.2 by rw [hr1]; rfl]
    refine V_ifz_eq (tgt := 74) h (dk dd_X12_readsPart_0 31 rfl) rfl (fun c49 => ?_) (fun c49 => ?_)
    · refine V_iconst h (dk dd_X12_readsPart_0 43 rfl) ?_
      refine V_zret h hF (dk dd_X12_readsPart_0 44 rfl) ⟨Nat.le_of_ble_eq_true rfl, Nat.le_of_ble_eq_true rfl⟩ (by first | exact Or.inr rfl | exact Or.inl rfl | exact bZ_01 | omega) ?_
      rw [show mr_M tx ty fo ap wr nb = (0, r1) by unfold mr_M; rw [← hr1]; exact (if_neg c4).trans (if_pos c49)]
      exact det_i rfl rfl
    · refine V_aload_n h (dk dd_X12_readsPart_0 32 rfl) rfl get0 ?_
      refine V_bipush h (dk dd_X12_readsPart_0 33 rfl) (by decide) ?_
      refine V_callV h st2 ci_X12_106 (pk_c get0 (pk_c get1 pk_n)) rfl 0 get0 rfl (m_X12_takes l G _ _ _ _ _ _ _ _ _ _ _ _ _ (hc) (by omega) (by omega)) rfl rfl (Nat.le_of_ble_eq_true rfl) (by decide) ⟨rfl, rfl, rfl⟩ (dk dd_X12_readsPart_0 34 rfl) sk1 (sm_c set0 (sm_c set1 sm_n)) ?_
      refine V_ifz_eq (tgt := 74) h (dk dd_X12_readsPart_0 35 rfl) rfl (fun c58 => ?_) (fun c58 => ?_)
      · refine V_iconst h (dk dd_X12_readsPart_0 43 rfl) ?_
        refine V_zret h hF (dk dd_X12_readsPart_0 44 rfl) ⟨Nat.le_of_ble_eq_true rfl, Nat.le_of_ble_eq_true rfl⟩ (by first | exact Or.inr rfl | exact Or.inl rfl | exact bZ_01 | omega) ?_
        rw [show mr_M tx ty fo ap wr nb = (0, r1) by unfold mr_M; rw [← hr1]; exact (if_neg c4).trans ((if_neg (not_not_intro c49)).trans (if_pos c58)), tk1_n c58]
        exact det_i rfl rfl
      · rw [tk1_y c58]
        have q2 := nu_R (a := r1.1 + 1) hc (by omega)
        rw [show nuE tx ty (r1.1 + 1) = r2.1 by rw [hr2, hr1]; rfl] at q2
        have w2 : -1 ≤ r2.2.1 ∧ r2.2.1 ≤ ty := by rw [hr2]; exact nuW_R (a := (mr_1 tx ty fo ap wr nb).1 + 1) (by rw [← hr1]; omega) (by rw [← hr1]; exact w1)
        refine V_aload_n h (dk dd_X12_readsPart_0 36 rfl) rfl get0 ?_
        refine V_iconst h (dk dd_X12_readsPart_0 37 rfl) ?_
        refine V_iconst h (dk dd_X12_readsPart_0 38 rfl) ?_
        refine V_sipush h (dk dd_X12_readsPart_0 39 rfl) (by decide) ?_
        refine V_iconst h (dk dd_X12_readsPart_0 40 rfl) ?_
        refine V_callV h st5 ci_X12_123 (pk_c get0 (pk_c get1 (pk_c get3 pk_n))) rfl 0 get0 rfl (m_X12_number l G _ _ _ _ _ _ _ _ _ _ _ _ _ _ _ _ _ (hc) (by omega) (by omega) (by omega) (by omega) (by omega) (by omega) (by omega)) rfl rfl (Nat.le_of_ble_eq_true rfl) (by decide) ⟨rfl, rfl, rfl⟩ (dk dd_X12_readsPart_0 41 rfl) sk1 (sm_c set0 (sm_c set1 (sm_c set3 sm_n))) ?_
        rw [show nuE tx ty (r1.1 + 1) = r2.1 by rw [hr2, hr1]; rfl, show nuW tx ty 1 27720 (r1.1 + 1) r1.2.1 = r2.2.1 by rw [hr2, hr1]; rfl, show nuB tx ty fo 1 0 (r1.1 + 1) r1.2.2 = r2.2.2 by rw [hr2, hr1]; rfl]
        refine V_ifz_ne (tgt := 76) h (dk dd_X12_readsPart_0 42 rfl) rfl (fun c71 => ?_) (fun c71 => ?_)
        · refine V_iload_n h (dk dd_X12_readsPart_0 45 rfl) rfl get1 ?_
          refine V_iconst h (dk dd_X12_readsPart_0 46 rfl) ?_
          refine V_icmp_eq (tgt := 86) h (dk dd_X12_readsPart_0 47 rfl) rfl (by omega) (fun c78 => ?_) (fun c78 => ?_)
          · refine V_iconst h (dk dd_X12_readsPart_1 1 rfl) ?_
            refine V_zret h hF (dk dd_X12_readsPart_1 2 rfl) ⟨Nat.le_of_ble_eq_true rfl, Nat.le_of_ble_eq_true rfl⟩ (by first | exact Or.inr rfl | exact Or.inl rfl | exact bZ_01 | omega) ?_
            rw [show mr_M tx ty fo ap wr nb = (1, r2) by unfold mr_M; rw [← hr1, ← hr2]; exact (if_neg c4).trans ((if_neg (not_not_intro c49)).trans ((if_neg (not_not_intro c58)).trans ((if_neg (not_not_intro c71)).trans (if_pos (by omega)))))]
            exact det_i rfl rfl
          · refine V_iload_n h (dk dd_X12_readsPart_0 48 rfl) rfl get1 ?_
            refine V_iconst h (dk dd_X12_readsPart_0 49 rfl) ?_
            refine V_icmp_ne (tgt := 88) h (dk dd_X12_readsPart_1 0 rfl) rfl (by omega) (fun c83 => ?_) (fun c83 => ?_)
            · refine V_aload_n h (dk dd_X12_readsPart_1 3 rfl) rfl get0 ?_
              refine V_bipush h (dk dd_X12_readsPart_1 4 rfl) (by decide) ?_
              refine V_callV h st2 ci_X12_106 (pk_c get0 (pk_c get1 pk_n)) rfl 0 get0 rfl (m_X12_takes l G _ _ _ _ _ _ _ _ _ _ _ _ _ (hc) (by omega) (by omega)) rfl rfl (Nat.le_of_ble_eq_true rfl) (by decide) ⟨rfl, rfl, rfl⟩ (dk dd_X12_readsPart_1 5 rfl) sk1 (sm_c set0 (sm_c set1 sm_n)) ?_
              refine V_ifz_ne (tgt := 99) h (dk dd_X12_readsPart_1 6 rfl) rfl (fun c94 => ?_) (fun c94 => ?_)
              · have J117 : ∀ (g : Int), g = mr_G tx ty fo ap wr nb ∧ Z01 g ∧ r2.1 + 1 + g ≤ ty → V K (0, 0) 117 [some (.ref x), some (.int (iZ (wkK tx ty ap))), none] [.int (iZ g)] [(x, .inr (11, [.ref (q 1), .ref (q 2), .int (iZ pm), .ref (q 3), .int (iZ ty), .int (iZ (r2.1 + 1 + g)), .int (iZ fo), .int (iZ r2.2.1), .ref (q 4), .ref (q 5), .ref (q 6), .ref (q 7), .ref (q 8), .ref (q 9), .ref (q 10), .int (iZ rm), .ref (q 11), .ref (q 12), .int (iZ hm), .ref (q 13), .ref (q 14), .ref (q 15), .ref (q 16), .int (iZ sb), .int (iZ be), .ref (q 17), .ref (q 18)])), ((q 3), .inl (G.2 0, 60, .inl (iF tx))), ((q 4), .inl (G.2 0, 12, .inl (iF (zup kd (fo % 12) (wkK tx ty ap))))), ((q 5), .inl (G.2 0, 36, .inl (iF r2.2.2)))] := by
                  intro g hJ117
                  obtain ⟨hg, hg1, hg2⟩ := hJ117
                  refine V_istore_n h (dk dd_X12_readsPart_1 18 rfl) rfl (Nat.le_of_ble_eq_true rfl) rfl set2 ?_
                  refine V_aload_n h (dk dd_X12_readsPart_1 19 rfl) rfl get0 ?_
                  refine V_iconst h (dk dd_X12_readsPart_1 20 rfl) ?_
                  refine V_iconst h (dk dd_X12_readsPart_1 21 rfl) ?_
                  refine V_iload_n h (dk dd_X12_readsPart_1 22 rfl) rfl get1 ?_
                  refine V_if_ne (tgt := 131) h (dk dd_X12_readsPart_1 23 rfl) rfl (by omega) (fun c122 => ?_) (fun c122 => ?_)
                  · refine V_sipush h (dk dd_X12_readsPart_1 26 rfl) (by decide) ?_
                    refine V_iload_n h (dk dd_X12_readsPart_1 27 rfl) rfl get2 ?_
                    refine V_callV h st5 ci_X12_123 (pk_c get0 (pk_c get1 (pk_c get3 pk_n))) rfl 0 get0 rfl (m_X12_number l G _ _ _ _ _ _ _ _ _ _ _ _ _ _ _ _ _ (hc) (by omega) (by omega) (by omega) (by omega) (by omega) (by omega) (by omega)) rfl rfl (Nat.le_of_ble_eq_true rfl) (by decide) ⟨rfl, rfl, rfl⟩ (dk dd_X12_readsPart_1 28 rfl) sk1 (sm_c set0 (sm_c set1 (sm_c set3 sm_n))) ?_
                    refine V_zret h hF (dk dd_X12_readsPart_1 29 rfl) ⟨Nat.le_of_ble_eq_true rfl, Nat.le_of_ble_eq_true rfl⟩ (by first | exact Or.inr rfl | exact Or.inl rfl | exact bZ_01 | omega) ?_
                    have e3 : mr_M tx ty fo ap wr nb = (bZ (r2.1 + 1 + g < nuE tx ty (r2.1 + 1 + g)), nS tx ty fo 2 0 9999 g (r2.1 + 1 + g, r2.2)) := by unfold mr_M; rw [← hr1, ← hr2, ← hg]; refine (if_neg c4).trans ((if_neg (not_not_intro c49)).trans ((if_neg (not_not_intro c58)).trans ((if_neg (not_not_intro c71)).trans ((if_neg (by omega)).trans ((if_neg (not_not_intro c94)).trans ?_))))); unfold mr_3; rw [← hr2, ← hg, if_neg c122]; rfl
                    rw [e3]
                    exact det_i rfl rfl
                  · refine V_sipush h (dk dd_X12_readsPart_1 24 rfl) (by decide) ?_
                    refine V_goto (tgt := 134) h (dk dd_X12_readsPart_1 25 rfl) rfl ?_
                    refine V_iload_n h (dk dd_X12_readsPart_1 27 rfl) rfl get2 ?_
                    refine V_callV h st5 ci_X12_123 (pk_c get0 (pk_c get1 (pk_c get3 pk_n))) rfl 0 get0 rfl (m_X12_number l G _ _ _ _ _ _ _ _ _ _ _ _ _ _ _ _ _ (hc) (by omega) (by omega) (by omega) (by omega) (by omega) (by omega) (by omega)) rfl rfl (Nat.le_of_ble_eq_true rfl) (by decide) ⟨rfl, rfl, rfl⟩ (dk dd_X12_readsPart_1 28 rfl) sk1 (sm_c set0 (sm_c set1 (sm_c set3 sm_n))) ?_
                    refine V_zret h hF (dk dd_X12_readsPart_1 29 rfl) ⟨Nat.le_of_ble_eq_true rfl, Nat.le_of_ble_eq_true rfl⟩ (by first | exact Or.inr rfl | exact Or.inl rfl | exact bZ_01 | omega) ?_
                    have e3 : mr_M tx ty fo ap wr nb = (bZ (r2.1 + 1 + g < nuE tx ty (r2.1 + 1 + g)), nS tx ty fo 2 0 1000 g (r2.1 + 1 + g, r2.2)) := by unfold mr_M; rw [← hr1, ← hr2, ← hg]; refine (if_neg c4).trans ((if_neg (not_not_intro c49)).trans ((if_neg (not_not_intro c58)).trans ((if_neg (not_not_intro c71)).trans ((if_neg (by omega)).trans ((if_neg (not_not_intro c94)).trans ?_))))); unfold mr_3; rw [← hr2, ← hg, if_pos c122]; rfl
                    rw [e3]
                    exact det_i rfl rfl
                rw [tk1_y c94]
                refine V_iload_n h (dk dd_X12_readsPart_1 9 rfl) rfl get1 ?_
                refine V_if_eq (tgt := 116) h (dk dd_X12_readsPart_1 10 rfl) rfl (by omega) (fun c100 => ?_) (fun c100 => ?_)
                · refine V_iconst h (dk dd_X12_readsPart_1 17 rfl) ?_
                  have e1 := J117 0 ⟨by unfold mr_G; rw [if_neg (fun q => q.1 c100)], Or.inl rfl, by omega⟩
                  rw [Int.add_zero] at e1
                  exact e1
                · refine V_aload_n h (dk dd_X12_readsPart_1 11 rfl) rfl get0 ?_
                  refine V_bipush h (dk dd_X12_readsPart_1 12 rfl) (by decide) ?_
                  refine V_callV h st2 ci_X12_106 (pk_c get0 (pk_c get1 pk_n)) rfl 0 get0 rfl (m_X12_takes l G _ _ _ _ _ _ _ _ _ _ _ _ _ (hc) (by omega) (by omega)) rfl rfl (Nat.le_of_ble_eq_true rfl) (by decide) ⟨rfl, rfl, rfl⟩ (dk dd_X12_readsPart_1 13 rfl) sk1 (sm_c set0 (sm_c set1 sm_n)) ?_
                  refine V_ifz_eq (tgt := 116) h (dk dd_X12_readsPart_1 14 rfl) rfl (fun c109 => ?_) (fun c109 => ?_)
                  · refine V_iconst h (dk dd_X12_readsPart_1 17 rfl) ?_
                    rw [tk1_n c109]
                    have e1 := J117 0 ⟨by unfold mr_G; rw [← hr2, if_neg (fun q => c109 q.2)], Or.inl rfl, by omega⟩
                    rw [Int.add_zero] at e1
                    exact e1
                  · refine V_iconst h (dk dd_X12_readsPart_1 15 rfl) ?_
                    refine V_goto (tgt := 117) h (dk dd_X12_readsPart_1 16 rfl) rfl ?_
                    rw [tk1_y c109]
                    exact J117 1 ⟨by unfold mr_G; rw [← hr2, if_pos ⟨c100, c109⟩], Or.inr rfl, by omega⟩
              · refine V_iconst h (dk dd_X12_readsPart_1 7 rfl) ?_
                refine V_zret h hF (dk dd_X12_readsPart_1 8 rfl) ⟨Nat.le_of_ble_eq_true rfl, Nat.le_of_ble_eq_true rfl⟩ (by first | exact Or.inr rfl | exact Or.inl rfl | exact bZ_01 | omega) ?_
                rw [show mr_M tx ty fo ap wr nb = (0, r2) by unfold mr_M; rw [← hr1, ← hr2]; exact (if_neg c4).trans ((if_neg (not_not_intro c49)).trans ((if_neg (not_not_intro c58)).trans ((if_neg (not_not_intro c71)).trans ((if_neg (by omega)).trans (if_pos c94))))), tk1_n c94]
                exact det_i rfl rfl
            · refine V_iconst h (dk dd_X12_readsPart_1 1 rfl) ?_
              refine V_zret h hF (dk dd_X12_readsPart_1 2 rfl) ⟨Nat.le_of_ble_eq_true rfl, Nat.le_of_ble_eq_true rfl⟩ (by first | exact Or.inr rfl | exact Or.inl rfl | exact bZ_01 | omega) ?_
              rw [show mr_M tx ty fo ap wr nb = (1, r2) by unfold mr_M; rw [← hr1, ← hr2]; exact (if_neg c4).trans ((if_neg (not_not_intro c49)).trans ((if_neg (not_not_intro c58)).trans ((if_neg (not_not_intro c71)).trans (if_pos (by omega)))))]
              exact det_i rfl rfl
        · refine V_iconst h (dk dd_X12_readsPart_0 43 rfl) ?_
          refine V_zret h hF (dk dd_X12_readsPart_0 44 rfl) ⟨Nat.le_of_ble_eq_true rfl, Nat.le_of_ble_eq_true rfl⟩ (by first | exact Or.inr rfl | exact Or.inl rfl | exact bZ_01 | omega) ?_
          rw [show mr_M tx ty fo ap wr nb = (0, r2) by unfold mr_M; rw [← hr1, ← hr2]; exact (if_neg c4).trans ((if_neg (not_not_intro c49)).trans ((if_neg (not_not_intro c58)).trans (if_pos c71)))]
          exact det_i rfl rfl
  · refine V_iconst h (dk dd_X12_readsPart_0 3 rfl) ?_
    refine V_zret h hF (dk dd_X12_readsPart_0 4 rfl) ⟨Nat.le_of_ble_eq_true rfl, Nat.le_of_ble_eq_true rfl⟩ (by first | exact Or.inr rfl | exact Or.inl rfl | exact bZ_01 | omega) ?_
    rw [show mr_M tx ty fo ap wr nb = (0, (wdX tx ty ap).1, wr, nb) from if_pos c4]
    exact det_i rfl rfl

set_option maxHeartbeats 4000000 in
set_option maxRecDepth 100000 in
theorem m_X12_wrongAt (l : Launch) (G : GT) (x : Nat) (q : Nat → Nat) (pm ty ap fo wr rm hm sb be : Int) (tx : Int → Int) (kd nb : Int → Int) (hc : ChOK tx ty) : Ctr l G yX12_wrongAt cX12_wrongAt 2 (Option.some FieldType.int) (rmO 5 0 0 110) [.ref x] [(x, .inr (11, [.ref (q 1), .ref (q 2), .int (iZ pm), .ref (q 3), .int (iZ ty), .int (iZ ap), .int (iZ fo), .int (iZ wr), .ref (q 4), .ref (q 5), .ref (q 6), .ref (q 7), .ref (q 8), .ref (q 9), .ref (q 10), .int (iZ rm), .ref (q 11), .ref (q 12), .int (iZ hm), .ref (q 13), .ref (q 14), .ref (q 15), .ref (q 16), .int (iZ sb), .int (iZ be), .ref (q 17), .ref (q 18)])), ((q 3), .inl (G.2 0, 60, .inl (iF tx))), ((q 4), .inl (G.2 0, 12, .inl (iF kd))), ((q 5), .inl (G.2 0, 36, .inl (iF nb)))] (Det (some (.int (iZ (wrI tx ty 61 (0, 0, -1, kd, nb)).1))) [(x, .inr (11, [.ref (q 1), .ref (q 2), .int (iZ pm), .ref (q 3), .int (iZ ty), .int (iZ (wrI tx ty 61 (0, 0, -1, kd, nb)).2.1), .int (iZ (wrI tx ty 61 (0, 0, -1, kd, nb)).2.2.1), .int (iZ (wrI tx ty 61 (0, 0, -1, kd, nb)).2.2.2.1), .ref (q 4), .ref (q 5), .ref (q 6), .ref (q 7), .ref (q 8), .ref (q 9), .ref (q 10), .int (iZ rm), .ref (q 11), .ref (q 12), .int (iZ hm), .ref (q 13), .ref (q 14), .ref (q 15), .ref (q 16), .int (iZ sb), .int (iZ be), .ref (q 17), .ref (q 18)])), ((q 3), .inl (G.2 0, 60, .inl (iF tx))), ((q 4), .inl (G.2 0, 12, .inl (iF (wrI tx ty 61 (0, 0, -1, kd, nb)).2.2.2.2.1))), ((q 5), .inl (G.2 0, 36, .inl (iF (wrI tx ty 61 (0, 0, -1, kd, nb)).2.2.2.2.2)))]) := by
  refine Ctr.go (own := RX12) (nm := "wrongAt") (by decide +kernel) rfl rfl [some (.ref x), none] 1 rfl rfl (Nat.le_of_ble_eq_true rfl) ?_
  intro K h hF
  have hc1 := hc.1
  refine V_aload_n h (dk dd_X12_wrongAt_0 0 rfl) rfl get0 ?_
  refine V_iconst h (dk dd_X12_wrongAt_0 1 rfl) ?_
  refine V_put h pf_X12_99 0 get0 (Nat.le_of_ble_eq_true rfl) set5 set0 rfl rfl (dk dd_X12_wrongAt_0 2 rfl) ?_
  refine V_aload_n h (dk dd_X12_wrongAt_0 3 rfl) rfl get0 ?_
  refine V_iconst h (dk dd_X12_wrongAt_0 4 rfl) ?_
  refine V_put h pf_X12_113 0 get0 (Nat.le_of_ble_eq_true rfl) set6 set0 rfl rfl (dk dd_X12_wrongAt_0 5 rfl) ?_
  refine V_aload_n h (dk dd_X12_wrongAt_0 6 rfl) rfl get0 ?_
  refine V_iconst h (dk dd_X12_wrongAt_0 7 rfl) ?_
  refine V_put h pf_X12_116 0 get0 (Nat.le_of_ble_eq_true rfl) set7 set0 rfl rfl (dk dd_X12_wrongAt_0 8 rfl) ?_
  refine V_iconst h (dk dd_X12_wrongAt_0 9 rfl) ?_
  refine V_istore_n h (dk dd_X12_wrongAt_0 10 rfl) rfl (Nat.le_of_ble_eq_true rfl) rfl set1 ?_
  have L17 : ∀ (fu : Nat) (t : MT) (b : Int) (n : Nat), (0 ≤ t.1 ∧ t.1 ≤ ty) ∧ (0 ≤ t.2.1 ∧ t.2.1 ≤ t.1) ∧ (-1 ≤ t.2.2.1 ∧ t.2.2.1 ≤ ty) ∧ Z01 b ∧ ((b = 1 ∧ 61 ≤ (n : Int) + t.1 ∧ wrI tx ty 61 (0, 0, -1, kd, nb) = wrI tx ty n t) ∨ (b = 0 ∧ wrI tx ty 61 (0, 0, -1, kd, nb) = ((if t.1 < ty then t.1 else t.2.2.1), t))) → (if b = 0 then 0 else n) < fu → V K (0, 0) 17 [some (.ref x), some (.int (iZ b))] [] [(x, .inr (11, [.ref (q 1), .ref (q 2), .int (iZ pm), .ref (q 3), .int (iZ ty), .int (iZ t.1), .int (iZ t.2.1), .int (iZ t.2.2.1), .ref (q 4), .ref (q 5), .ref (q 6), .ref (q 7), .ref (q 8), .ref (q 9), .ref (q 10), .int (iZ rm), .ref (q 11), .ref (q 12), .int (iZ hm), .ref (q 13), .ref (q 14), .ref (q 15), .ref (q 16), .int (iZ sb), .int (iZ be), .ref (q 17), .ref (q 18)])), ((q 3), .inl (G.2 0, 60, .inl (iF tx))), ((q 4), .inl (G.2 0, 12, .inl (iF t.2.2.2.1))), ((q 5), .inl (G.2 0, 36, .inl (iF t.2.2.2.2)))] := by
    intro fu
    induction fu with
    | zero => intro t b n _ hm; exact absurd hm (Nat.not_lt_zero _)
    | succ fu ih17 =>
      intro t b n hI17 hm17
      obtain ⟨ht1, ht2, ht3, hb, hU⟩ := hI17
      refine V_iload_n h (dk dd_X12_wrongAt_0 11 rfl) rfl get1 ?_
      refine V_if_eq (tgt := 53) h (dk dd_X12_wrongAt_0 12 rfl) rfl (hb.R) (fun c18 => ?_) (fun c18 => ?_)
      · obtain ⟨-, hE⟩ := hU.resolve_left (fun q => by omega)
        refine V_aload_n h (dk dd_X12_wrongAt_0 30 rfl) rfl get0 ?_
        refine V_get h fl_X12_99 0 get0 get5 (dk dd_X12_wrongAt_0 31 rfl) ?_
        refine V_aload_n h (dk dd_X12_wrongAt_0 32 rfl) rfl get0 ?_
        refine V_get h fl_X12_96 0 get0 get4 (dk dd_X12_wrongAt_0 33 rfl) ?_
        refine V_icmp_ge (tgt := 71) h (dk dd_X12_wrongAt_0 34 rfl) rfl (by omega) (fun c61 => ?_) (fun c61 => ?_)
        · refine V_aload_n h (dk dd_X12_wrongAt_0 38 rfl) rfl get0 ?_
          refine V_get h fl_X12_116 0 get0 get7 (dk dd_X12_wrongAt_0 39 rfl) ?_
          refine V_iret h hF (dk dd_X12_wrongAt_0 40 rfl) ⟨Nat.le_of_ble_eq_true rfl, Nat.le_of_ble_eq_true rfl⟩ ?_
          rw [hE]
          exact det_i (by rw [if_neg (by omega)]) rfl
        · refine V_aload_n h (dk dd_X12_wrongAt_0 35 rfl) rfl get0 ?_
          refine V_get h fl_X12_99 0 get0 get5 (dk dd_X12_wrongAt_0 36 rfl) ?_
          refine V_goto (tgt := 75) h (dk dd_X12_wrongAt_0 37 rfl) rfl ?_
          refine V_iret h hF (dk dd_X12_wrongAt_0 40 rfl) ⟨Nat.le_of_ble_eq_true rfl, Nat.le_of_ble_eq_true rfl⟩ ?_
          rw [hE]
          exact det_i (by rw [if_pos (by omega)]) rfl
      · obtain ⟨-, hn, hE⟩ := hU.resolve_right (fun q => c18 q.1)
        obtain ⟨m, rfl⟩ : ∃ m, n = m + 1 := ⟨n - 1, by omega⟩
        have hp := mr_R (fo := t.2.1) (nb := t.2.2.2.2) hc ht1 ht3
        rw [show mr_M tx ty t.2.1 t.1 t.2.2.1 t.2.2.2.2 = mtP tx ty t from rfl] at hp
        have hgp := sg_R hc (mtP tx ty t).2.1
        refine V_aload_n h (dk dd_X12_wrongAt_0 13 rfl) rfl get0 ?_
        refine V_callV h st1 ci_X12_127 (pk_c get0 (pk_c get1 (pk_c get2 (pk_c get3 pk_n)))) rfl 0 get0 rfl (m_X12_readsPart l G _ _ _ _ _ _ _ _ _ _ _ _ _ _ (hc) (ht1) (by omega) (ht3)) rfl rfl (Nat.le_of_ble_eq_true rfl) (by decide) ⟨rfl, rfl, rfl⟩ (dk dd_X12_wrongAt_0 14 rfl) sk1 (sm_c set0 (sm_c set1 (sm_c set2 (sm_c set3 sm_n)))) ?_
        rw [show mr_M tx ty t.2.1 t.1 t.2.2.1 t.2.2.2.2 = mtP tx ty t from rfl, show zup t.2.2.2.1 (t.2.1 % 12) (wkK tx ty t.1) = mtK tx ty t from rfl]
        refine V_if_ne (tgt := 33) h (dk dd_X12_wrongAt_0 15 rfl) rfl (hp.2.1.R) (fun c25 => ?_) (fun c25 => ?_)
        · refine V_aload_n h (dk dd_X12_wrongAt_0 19 rfl) rfl get0 ?_
          refine V_dup h (dk dd_X12_wrongAt_0 20 rfl) rfl ?_
          refine V_get h fl_X12_113 0 get0 get6 (dk dd_X12_wrongAt_0 21 rfl) ?_
          refine V_iconst h (dk dd_X12_wrongAt_0 22 rfl) ?_
          refine V_iadd h (dk dd_X12_wrongAt_0 23 rfl) ?_
          refine V_put h pf_X12_113 0 get0 (Nat.le_of_ble_eq_true rfl) set6 set0 rfl rfl (dk dd_X12_wrongAt_0 24 rfl) ?_
          refine V_aload_n h (dk dd_X12_wrongAt_0 25 rfl) rfl get0 ?_
          refine V_bipush h (dk dd_X12_wrongAt_0 26 rfl) (by decide) ?_
          refine V_callV h st2 ci_X12_106 (pk_c get0 (pk_c get1 pk_n)) rfl 0 get0 rfl (m_X12_takes l G _ _ _ _ _ _ _ _ _ _ _ _ _ (hc) (by omega) (by omega)) rfl rfl (Nat.le_of_ble_eq_true rfl) (by decide) ⟨rfl, rfl, rfl⟩ (dk dd_X12_wrongAt_0 27 rfl) sk1 (sm_c set0 (sm_c set1 sm_n)) ?_
          refine V_istore_n h (dk dd_X12_wrongAt_0 28 rfl) rfl (Nat.le_of_ble_eq_true rfl) rfl set1 ?_
          refine V_goto (tgt := 17) h (dk dd_X12_wrongAt_0 29 rfl) rfl ?_
          have hp2 := hp.2.2.2 c25
          by_cases hq : sgF tx ty (mtP tx ty t).2.1 = 59
          · rw [bZ_t hq, tk1_y hq]
            exact ih17 ((mtP tx ty t).2.1 + 1, t.2.1 + 1, (mtP tx ty t).2.2.1, mtK tx ty t, (mtP tx ty t).2.2.2) 1 m ⟨by have := hgp.2.2 (by omega); dsimp only; omega, by dsimp only; omega, hp.2.2.1, Or.inr rfl, Or.inl ⟨rfl, by dsimp only; omega, hE.trans (wr_b _ c25 hq)⟩⟩ (by rw [if_neg (by decide)]; rw [if_neg c18] at hm17; omega)
          · rw [bZ_f hq, tk1_n hq]
            exact ih17 ((mtP tx ty t).2.1, t.2.1 + 1, (mtP tx ty t).2.2.1, mtK tx ty t, (mtP tx ty t).2.2.2) 0 0 ⟨by dsimp only; omega, by dsimp only; omega, hp.2.2.1, Or.inl rfl, Or.inr ⟨rfl, hE.trans (wr_c _ c25 hq)⟩⟩ (by rw [if_pos rfl]; rw [if_neg c18] at hm17; omega)
        · refine V_aload_n h (dk dd_X12_wrongAt_0 16 rfl) rfl get0 ?_
          refine V_get h fl_X12_99 0 get0 get5 (dk dd_X12_wrongAt_0 17 rfl) ?_
          refine V_iret h hF (dk dd_X12_wrongAt_0 18 rfl) ⟨Nat.le_of_ble_eq_true rfl, Nat.le_of_ble_eq_true rfl⟩ ?_
          rw [hE, wr_a _ c25]
          exact det_i rfl rfl
  exact L17 _ (0, 0, -1, kd, nb) 1 61 ⟨by dsimp only; omega, by dsimp only; omega, by dsimp only; omega, Or.inr rfl, Or.inl ⟨rfl, by dsimp only; omega, rfl⟩⟩ (Nat.lt_succ_self _)

