/-! the reference: the wall -/
set_option maxHeartbeats 4000000 in
set_option maxRecDepth 100000 in
theorem m_madd_bad (l : Launch) (G : GT) (x : Nat) (q : Nat → Nat) (pm ty ap fo wr rm hm sb be : Int) (pp vv : Int → Int) (k p m s : Int) (hv : 0 ≤ vv 0 ∧ vv 0 ≤ 12) (hp : 0 ≤ pm ∧ pm ≤ 5) (hk : R32 k) (hp2 : R32 p) (hm2 : R32 m) (hq : R32 s) (hA : ¬ allowP k p m s) : Ctr l G yX12_add cX12_add 5 (Option.some FieldType.int) (rmO 2 0 0 43) [.ref x, .int (iZ k), .int (iZ p), .int (iZ m), .int (iZ s)] [(x, .inr (11, [.ref (q 1), .ref (q 2), .int (iZ pm), .ref (q 3), .int (iZ ty), .int (iZ ap), .int (iZ fo), .int (iZ wr), .ref (q 4), .ref (q 5), .ref (q 6), .ref (q 7), .ref (q 8), .ref (q 9), .ref (q 10), .int (iZ rm), .ref (q 11), .ref (q 12), .int (iZ hm), .ref (q 13), .ref (q 14), .ref (q 15), .ref (q 16), .int (iZ sb), .int (iZ be), .ref (q 17), .ref (q 18)])), ((q 2), .inl (G.2 0, 300, .inl (iF pp))), ((q 1), .inl (G.2 0, 60, .inl (iF vv)))] (Det (some (.int (iZ (-100001)))) [(x, .inr (11, [.ref (q 1), .ref (q 2), .int (iZ pm), .ref (q 3), .int (iZ ty), .int (iZ ap), .int (iZ fo), .int (iZ wr), .ref (q 4), .ref (q 5), .ref (q 6), .ref (q 7), .ref (q 8), .ref (q 9), .ref (q 10), .int (iZ rm), .ref (q 11), .ref (q 12), .int (iZ hm), .ref (q 13), .ref (q 14), .ref (q 15), .ref (q 16), .int (iZ sb), .int (iZ be), .ref (q 17), .ref (q 18)])), ((q 2), .inl (G.2 0, 300, .inl (iF pp))), ((q 1), .inl (G.2 0, 60, .inl (iF vv)))]) := by
  refine Ctr.go (own := RX12) (nm := "add") (by decide +kernel) rfl rfl [some (.ref x), some (.int (iZ k)), some (.int (iZ p)), some (.int (iZ m)), some (.int (iZ s))] 0 rfl rfl (Nat.le_of_ble_eq_true rfl) ?_
  intro K h hF
  refine V_iload_n h (dk dd_X12_add_0 0 rfl) rfl get1 ?_
  refine V_iconst h (dk dd_X12_add_0 1 rfl) ?_
  refine V_iconst h (dk dd_X12_add_0 2 rfl) ?_
  refine V_callS h st3 ci_X12_70 pk_n rfl (m_X12_in l G _ _ _ (by omega) (by omega) (by omega)) rfl rfl (Nat.le_of_ble_eq_true rfl) (by decide) ⟨rfl, rfl, rfl⟩ (dk dd_X12_add_0 3 rfl) sk1 sm_n ?_
  refine V_ifz_eq (tgt := 40) h (dk dd_X12_add_0 4 rfl) rfl (fun c6 => ?_) (fun c6 => ?_)
  · refine V_ldc h q4_104 (dk dd_X12_add_0 19 rfl) ?_
    refine V_iret h hF (dk dd_X12_add_0 20 rfl) ⟨Nat.le_of_ble_eq_true rfl, Nat.le_of_ble_eq_true rfl⟩ ?_
    exact det_i (by first | rfl | omega) rfl
  · refine V_iload_n h (dk dd_X12_add_0 5 rfl) rfl get2 ?_
    refine V_iconst h (dk dd_X12_add_0 6 rfl) ?_
    refine V_sipush h (dk dd_X12_add_0 7 rfl) (by decide) ?_
    refine V_callS h st3 ci_X12_70 pk_n rfl (m_X12_in l G _ _ _ (by omega) (by omega) (by omega)) rfl rfl (Nat.le_of_ble_eq_true rfl) (by decide) ⟨rfl, rfl, rfl⟩ (dk dd_X12_add_0 8 rfl) sk1 sm_n ?_
    refine V_ifz_eq (tgt := 40) h (dk dd_X12_add_0 9 rfl) rfl (fun c17 => ?_) (fun c17 => ?_)
    · refine V_ldc h q4_104 (dk dd_X12_add_0 19 rfl) ?_
      refine V_iret h hF (dk dd_X12_add_0 20 rfl) ⟨Nat.le_of_ble_eq_true rfl, Nat.le_of_ble_eq_true rfl⟩ ?_
      exact det_i (by first | rfl | omega) rfl
    · refine V_iload_n h (dk dd_X12_add_0 10 rfl) rfl get3 ?_
      refine V_iconst h (dk dd_X12_add_0 11 rfl) ?_
      refine V_sipush h (dk dd_X12_add_0 12 rfl) (by decide) ?_
      refine V_callS h st3 ci_X12_70 pk_n rfl (m_X12_in l G _ _ _ (by omega) (by omega) (by omega)) rfl rfl (Nat.le_of_ble_eq_true rfl) (by decide) ⟨rfl, rfl, rfl⟩ (dk dd_X12_add_0 13 rfl) sk1 sm_n ?_
      refine V_ifz_eq (tgt := 40) h (dk dd_X12_add_0 14 rfl) rfl (fun c28 => ?_) (fun c28 => ?_)
      · refine V_ldc h q4_104 (dk dd_X12_add_0 19 rfl) ?_
        refine V_iret h hF (dk dd_X12_add_0 20 rfl) ⟨Nat.le_of_ble_eq_true rfl, Nat.le_of_ble_eq_true rfl⟩ ?_
        exact det_i (by first | rfl | omega) rfl
      · refine V_iload_n h (dk dd_X12_add_0 15 rfl) rfl get1 ?_
        refine V_iload h (dk dd_X12_add_0 16 rfl) get4 ?_
        refine V_callS h st2 ci_X12_74 pk_n rfl (m_X12_isNumber l G _ _ (by omega) (by omega)) rfl rfl (Nat.le_of_ble_eq_true rfl) (by decide) ⟨rfl, rfl, rfl⟩ (dk dd_X12_add_0 17 rfl) sk1 sm_n ?_
        refine V_ifz_ne (tgt := 43) h (dk dd_X12_add_0 18 rfl) rfl (fun c37 => ?_) (fun c37 => ?_)
        · exact absurd (allow_num.mpr ⟨c6, c17, c28, c37⟩) hA
        · refine V_ldc h q4_104 (dk dd_X12_add_0 19 rfl) ?_
          refine V_iret h hF (dk dd_X12_add_0 20 rfl) ⟨Nat.le_of_ble_eq_true rfl, Nat.le_of_ble_eq_true rfl⟩ ?_
          exact det_i (by first | rfl | omega) rfl

set_option maxHeartbeats 4000000 in
set_option maxRecDepth 100000 in
theorem m_madd_full (l : Launch) (G : GT) (x : Nat) (q : Nat → Nat) (pm ty ap fo wr rm hm sb be : Int) (pp vv : Int → Int) (k p m s : Int) (hv : 0 ≤ vv 0 ∧ vv 0 ≤ 12) (hp : 0 ≤ pm ∧ pm ≤ 5) (hk : R32 k) (hp2 : R32 p) (hm2 : R32 m) (hq : R32 s) (hA : allowP k p m s) (hl : vv 0 = 12) : Ctr l G yX12_add cX12_add 5 (Option.some FieldType.int) (rmO 2 0 0 43) [.ref x, .int (iZ k), .int (iZ p), .int (iZ m), .int (iZ s)] [(x, .inr (11, [.ref (q 1), .ref (q 2), .int (iZ pm), .ref (q 3), .int (iZ ty), .int (iZ ap), .int (iZ fo), .int (iZ wr), .ref (q 4), .ref (q 5), .ref (q 6), .ref (q 7), .ref (q 8), .ref (q 9), .ref (q 10), .int (iZ rm), .ref (q 11), .ref (q 12), .int (iZ hm), .ref (q 13), .ref (q 14), .ref (q 15), .ref (q 16), .int (iZ sb), .int (iZ be), .ref (q 17), .ref (q 18)])), ((q 2), .inl (G.2 0, 300, .inl (iF pp))), ((q 1), .inl (G.2 0, 60, .inl (iF vv)))] (Det (some (.int (iZ (-100003)))) [(x, .inr (11, [.ref (q 1), .ref (q 2), .int (iZ pm), .ref (q 3), .int (iZ ty), .int (iZ ap), .int (iZ fo), .int (iZ wr), .ref (q 4), .ref (q 5), .ref (q 6), .ref (q 7), .ref (q 8), .ref (q 9), .ref (q 10), .int (iZ rm), .ref (q 11), .ref (q 12), .int (iZ hm), .ref (q 13), .ref (q 14), .ref (q 15), .ref (q 16), .int (iZ sb), .int (iZ be), .ref (q 17), .ref (q 18)])), ((q 2), .inl (G.2 0, 300, .inl (iF pp))), ((q 1), .inl (G.2 0, 60, .inl (iF vv)))]) := by
  refine Ctr.go (own := RX12) (nm := "add") (by decide +kernel) rfl rfl [some (.ref x), some (.int (iZ k)), some (.int (iZ p)), some (.int (iZ m)), some (.int (iZ s))] 0 rfl rfl (Nat.le_of_ble_eq_true rfl) ?_
  intro K h hF
  obtain ⟨a1, a2, a3, a4⟩ := allow_num.mp hA
  refine V_iload_n h (dk dd_X12_add_0 0 rfl) rfl get1 ?_
  refine V_iconst h (dk dd_X12_add_0 1 rfl) ?_
  refine V_iconst h (dk dd_X12_add_0 2 rfl) ?_
  refine V_callS h st3 ci_X12_70 pk_n rfl (m_X12_in l G _ _ _ (by omega) (by omega) (by omega)) rfl rfl (Nat.le_of_ble_eq_true rfl) (by decide) ⟨rfl, rfl, rfl⟩ (dk dd_X12_add_0 3 rfl) sk1 sm_n ?_
  refine V_ifz_eq (tgt := 40) h (dk dd_X12_add_0 4 rfl) rfl (fun c6 => ?_) (fun c6 => ?_)
  · exfalso; first | exact c6 a1 | exact c17 a2 | exact c28 a3 | exact c37 a4
  · refine V_iload_n h (dk dd_X12_add_0 5 rfl) rfl get2 ?_
    refine V_iconst h (dk dd_X12_add_0 6 rfl) ?_
    refine V_sipush h (dk dd_X12_add_0 7 rfl) (by decide) ?_
    refine V_callS h st3 ci_X12_70 pk_n rfl (m_X12_in l G _ _ _ (by omega) (by omega) (by omega)) rfl rfl (Nat.le_of_ble_eq_true rfl) (by decide) ⟨rfl, rfl, rfl⟩ (dk dd_X12_add_0 8 rfl) sk1 sm_n ?_
    refine V_ifz_eq (tgt := 40) h (dk dd_X12_add_0 9 rfl) rfl (fun c17 => ?_) (fun c17 => ?_)
    · exfalso; first | exact c6 a1 | exact c17 a2 | exact c28 a3 | exact c37 a4
    · refine V_iload_n h (dk dd_X12_add_0 10 rfl) rfl get3 ?_
      refine V_iconst h (dk dd_X12_add_0 11 rfl) ?_
      refine V_sipush h (dk dd_X12_add_0 12 rfl) (by decide) ?_
      refine V_callS h st3 ci_X12_70 pk_n rfl (m_X12_in l G _ _ _ (by omega) (by omega) (by omega)) rfl rfl (Nat.le_of_ble_eq_true rfl) (by decide) ⟨rfl, rfl, rfl⟩ (dk dd_X12_add_0 13 rfl) sk1 sm_n ?_
      refine V_ifz_eq (tgt := 40) h (dk dd_X12_add_0 14 rfl) rfl (fun c28 => ?_) (fun c28 => ?_)
      · exfalso; first | exact c6 a1 | exact c17 a2 | exact c28 a3 | exact c37 a4
      · refine V_iload_n h (dk dd_X12_add_0 15 rfl) rfl get1 ?_
        refine V_iload h (dk dd_X12_add_0 16 rfl) get4 ?_
        refine V_callS h st2 ci_X12_74 pk_n rfl (m_X12_isNumber l G _ _ (by omega) (by omega)) rfl rfl (Nat.le_of_ble_eq_true rfl) (by decide) ⟨rfl, rfl, rfl⟩ (dk dd_X12_add_0 17 rfl) sk1 sm_n ?_
        refine V_ifz_ne (tgt := 43) h (dk dd_X12_add_0 18 rfl) rfl (fun c37 => ?_) (fun c37 => ?_)
        · refine V_aload_n h (dk dd_X12_add_0 21 rfl) rfl get0 ?_
          refine V_get h fl_X12_7 0 get0 get0 (dk dd_X12_add_0 22 rfl) ?_
          refine V_iconst h (dk dd_X12_add_0 23 rfl) ?_
          refine V_iald h 2 get2 (by omega) (dk dd_X12_add_0 24 rfl) ?_
          refine V_bipush h (dk dd_X12_add_0 25 rfl) (by decide) ?_
          refine V_icmp_ne (tgt := 57) h (dk dd_X12_add_0 26 rfl) rfl (by omega) (fun c51 => ?_) (fun c51 => ?_)
          · exfalso; omega
          · refine V_ldc h q4_105 (dk dd_X12_add_0 27 rfl) ?_
            refine V_iret h hF (dk dd_X12_add_0 28 rfl) ⟨Nat.le_of_ble_eq_true rfl, Nat.le_of_ble_eq_true rfl⟩ ?_
            exact det_i (by first | rfl | omega) rfl
        · exfalso; first | exact c6 a1 | exact c17 a2 | exact c28 a3 | exact c37 a4

set_option maxHeartbeats 4000000 in
set_option maxRecDepth 100000 in
theorem m_madd_ok (l : Launch) (G : GT) (x : Nat) (q : Nat → Nat) (pm ty ap fo wr rm hm sb be : Int) (pp vv : Int → Int) (k p m s : Int) (hv : 0 ≤ vv 0 ∧ vv 0 ≤ 12) (hp : 0 ≤ pm ∧ pm ≤ 5) (hk : R32 k) (hp2 : R32 p) (hm2 : R32 m) (hq : R32 s) (hA : allowP k p m s) (hl : vv 0 < 12) : Ctr l G yX12_add cX12_add 5 (Option.some FieldType.int) (rmO 2 0 0 43) [.ref x, .int (iZ k), .int (iZ p), .int (iZ m), .int (iZ s)] [(x, .inr (11, [.ref (q 1), .ref (q 2), .int (iZ pm), .ref (q 3), .int (iZ ty), .int (iZ ap), .int (iZ fo), .int (iZ wr), .ref (q 4), .ref (q 5), .ref (q 6), .ref (q 7), .ref (q 8), .ref (q 9), .ref (q 10), .int (iZ rm), .ref (q 11), .ref (q 12), .int (iZ hm), .ref (q 13), .ref (q 14), .ref (q 15), .ref (q 16), .int (iZ sb), .int (iZ be), .ref (q 17), .ref (q 18)])), ((q 2), .inl (G.2 0, 300, .inl (iF pp))), ((q 1), .inl (G.2 0, 60, .inl (iF vv)))] (Det (some (.int (iZ (vv 0)))) [(x, .inr (11, [.ref (q 1), .ref (q 2), .int (iZ (aM pm + 1)), .ref (q 3), .int (iZ ty), .int (iZ ap), .int (iZ fo), .int (iZ wr), .ref (q 4), .ref (q 5), .ref (q 6), .ref (q 7), .ref (q 8), .ref (q 9), .ref (q 10), .int (iZ rm), .ref (q 11), .ref (q 12), .int (iZ hm), .ref (q 13), .ref (q 14), .ref (q 15), .ref (q 16), .int (iZ sb), .int (iZ be), .ref (q 17), .ref (q 18)])), ((q 2), .inl (G.2 0, 300, .inl (iF (aP vv pp pm)))), ((q 1), .inl (G.2 0, 60, .inl (iF (adF vv k p m s))))]) := by
  refine Ctr.go (own := RX12) (nm := "add") (by decide +kernel) rfl rfl [some (.ref x), some (.int (iZ k)), some (.int (iZ p)), some (.int (iZ m)), some (.int (iZ s))] 0 rfl rfl (Nat.le_of_ble_eq_true rfl) ?_
  intro K h hF
  obtain ⟨a1, a2, a3, a4⟩ := allow_num.mp hA
  refine V_iload_n h (dk dd_X12_add_0 0 rfl) rfl get1 ?_
  refine V_iconst h (dk dd_X12_add_0 1 rfl) ?_
  refine V_iconst h (dk dd_X12_add_0 2 rfl) ?_
  refine V_callS h st3 ci_X12_70 pk_n rfl (m_X12_in l G _ _ _ (by omega) (by omega) (by omega)) rfl rfl (Nat.le_of_ble_eq_true rfl) (by decide) ⟨rfl, rfl, rfl⟩ (dk dd_X12_add_0 3 rfl) sk1 sm_n ?_
  refine V_ifz_eq (tgt := 40) h (dk dd_X12_add_0 4 rfl) rfl (fun c6 => ?_) (fun c6 => ?_)
  · exfalso; first | exact c6 a1 | exact c17 a2 | exact c28 a3 | exact c37 a4
  · refine V_iload_n h (dk dd_X12_add_0 5 rfl) rfl get2 ?_
    refine V_iconst h (dk dd_X12_add_0 6 rfl) ?_
    refine V_sipush h (dk dd_X12_add_0 7 rfl) (by decide) ?_
    refine V_callS h st3 ci_X12_70 pk_n rfl (m_X12_in l G _ _ _ (by omega) (by omega) (by omega)) rfl rfl (Nat.le_of_ble_eq_true rfl) (by decide) ⟨rfl, rfl, rfl⟩ (dk dd_X12_add_0 8 rfl) sk1 sm_n ?_
    refine V_ifz_eq (tgt := 40) h (dk dd_X12_add_0 9 rfl) rfl (fun c17 => ?_) (fun c17 => ?_)
    · exfalso; first | exact c6 a1 | exact c17 a2 | exact c28 a3 | exact c37 a4
    · refine V_iload_n h (dk dd_X12_add_0 10 rfl) rfl get3 ?_
      refine V_iconst h (dk dd_X12_add_0 11 rfl) ?_
      refine V_sipush h (dk dd_X12_add_0 12 rfl) (by decide) ?_
      refine V_callS h st3 ci_X12_70 pk_n rfl (m_X12_in l G _ _ _ (by omega) (by omega) (by omega)) rfl rfl (Nat.le_of_ble_eq_true rfl) (by decide) ⟨rfl, rfl, rfl⟩ (dk dd_X12_add_0 13 rfl) sk1 sm_n ?_
      refine V_ifz_eq (tgt := 40) h (dk dd_X12_add_0 14 rfl) rfl (fun c28 => ?_) (fun c28 => ?_)
      · exfalso; first | exact c6 a1 | exact c17 a2 | exact c28 a3 | exact c37 a4
      · refine V_iload_n h (dk dd_X12_add_0 15 rfl) rfl get1 ?_
        refine V_iload h (dk dd_X12_add_0 16 rfl) get4 ?_
        refine V_callS h st2 ci_X12_74 pk_n rfl (m_X12_isNumber l G _ _ (by omega) (by omega)) rfl rfl (Nat.le_of_ble_eq_true rfl) (by decide) ⟨rfl, rfl, rfl⟩ (dk dd_X12_add_0 17 rfl) sk1 sm_n ?_
        refine V_ifz_ne (tgt := 43) h (dk dd_X12_add_0 18 rfl) rfl (fun c37 => ?_) (fun c37 => ?_)
        · refine V_aload_n h (dk dd_X12_add_0 21 rfl) rfl get0 ?_
          refine V_get h fl_X12_7 0 get0 get0 (dk dd_X12_add_0 22 rfl) ?_
          refine V_iconst h (dk dd_X12_add_0 23 rfl) ?_
          refine V_iald h 2 get2 (by omega) (dk dd_X12_add_0 24 rfl) ?_
          refine V_bipush h (dk dd_X12_add_0 25 rfl) (by decide) ?_
          refine V_icmp_ne (tgt := 57) h (dk dd_X12_add_0 26 rfl) rfl (by omega) (fun c51 => ?_) (fun c51 => ?_)
          · refine V_aload_n h (dk dd_X12_add_0 29 rfl) rfl get0 ?_
            refine V_callV h st1 ci_X12_80 (pk_c get0 (pk_c get1 (pk_c get2 pk_n))) rfl 0 get0 rfl (m_X12_act l G _ _ _ _ _ _ _ _ _ _ _ _ _ (by omega)) rfl rfl (Nat.le_of_ble_eq_true rfl) (by decide) ⟨rfl, rfl, rfl⟩ (dk dd_X12_add_0 30 rfl) sk0 (sm_c set0 (sm_c set1 (sm_c set2 sm_n))) ?_
            refine V_aload_n h (dk dd_X12_add_0 31 rfl) rfl get0 ?_
            refine V_iload_n h (dk dd_X12_add_0 32 rfl) rfl get1 ?_
            refine V_iload_n h (dk dd_X12_add_0 33 rfl) rfl get2 ?_
            refine V_iload_n h (dk dd_X12_add_0 34 rfl) rfl get3 ?_
            refine V_iload h (dk dd_X12_add_0 35 rfl) get4 ?_
            refine V_callV h st5 ci_X12_83 (pk_c get0 (pk_c get2 pk_n)) rfl 0 get0 rfl (m_X12_adds l G _ _ _ _ _ _ _ _ _ _ _ _ _ _ _ _ (by omega)) rfl rfl (Nat.le_of_ble_eq_true rfl) (by decide) ⟨rfl, rfl, rfl⟩ (dk dd_X12_add_0 36 rfl) sk0 (sm_c set0 (sm_c set2 sm_n)) ?_
            refine V_aload_n h (dk dd_X12_add_0 37 rfl) rfl get0 ?_
            refine V_get h fl_X12_7 0 get0 get0 (dk dd_X12_add_0 38 rfl) ?_
            refine V_iconst h (dk dd_X12_add_0 39 rfl) ?_
            refine V_iald h 2 get2 (by omega) (dk dd_X12_add_0 40 rfl) ?_
            rw [show adF vv k p m s 0 = vv 0 + 1 from zup_s]
            refine V_iconst h (dk dd_X12_add_0 41 rfl) ?_
            refine V_isub h (dk dd_X12_add_0 42 rfl) ?_
            refine V_iret h hF (dk dd_X12_add_0 43 rfl) ⟨Nat.le_of_ble_eq_true rfl, Nat.le_of_ble_eq_true rfl⟩ ?_
            exact det_i (by first | rfl | omega) rfl
          · exfalso; omega
        · exfalso; first | exact c6 a1 | exact c17 a2 | exact c28 a3 | exact c37 a4

set_option maxHeartbeats 4000000 in
set_option maxRecDepth 100000 in
theorem m_mremove_bad (l : Launch) (G : GT) (x : Nat) (q : Nat → Nat) (pm ty ap fo wr rm hm sb be : Int) (pp vv : Int → Int) (k : Int) (hv : 0 ≤ vv 0 ∧ vv 0 ≤ 12) (hp : 0 ≤ pm ∧ pm ≤ 5) (hk : R32 k) (hA : ¬ (0 ≤ k ∧ k < vv 0)) : Ctr l G yX12_remove cX12_remove 3 (Option.some FieldType.int) (rmO 2 0 0 43) [.ref x, .int (iZ k)] [(x, .inr (11, [.ref (q 1), .ref (q 2), .int (iZ pm), .ref (q 3), .int (iZ ty), .int (iZ ap), .int (iZ fo), .int (iZ wr), .ref (q 4), .ref (q 5), .ref (q 6), .ref (q 7), .ref (q 8), .ref (q 9), .ref (q 10), .int (iZ rm), .ref (q 11), .ref (q 12), .int (iZ hm), .ref (q 13), .ref (q 14), .ref (q 15), .ref (q 16), .int (iZ sb), .int (iZ be), .ref (q 17), .ref (q 18)])), ((q 2), .inl (G.2 0, 300, .inl (iF pp))), ((q 1), .inl (G.2 0, 60, .inl (iF vv)))] (Det (some (.int (iZ (-100001)))) [(x, .inr (11, [.ref (q 1), .ref (q 2), .int (iZ pm), .ref (q 3), .int (iZ ty), .int (iZ ap), .int (iZ fo), .int (iZ wr), .ref (q 4), .ref (q 5), .ref (q 6), .ref (q 7), .ref (q 8), .ref (q 9), .ref (q 10), .int (iZ rm), .ref (q 11), .ref (q 12), .int (iZ hm), .ref (q 13), .ref (q 14), .ref (q 15), .ref (q 16), .int (iZ sb), .int (iZ be), .ref (q 17), .ref (q 18)])), ((q 2), .inl (G.2 0, 300, .inl (iF pp))), ((q 1), .inl (G.2 0, 60, .inl (iF vv)))]) := by
  refine Ctr.go (own := RX12) (nm := "remove") (by decide +kernel) rfl rfl [some (.ref x), some (.int (iZ k)), none] 1 rfl rfl (Nat.le_of_ble_eq_true rfl) ?_
  intro K h hF
  refine V_aload_n h (dk dd_X12_remove_0 0 rfl) rfl get0 ?_
  refine V_iload_n h (dk dd_X12_remove_0 1 rfl) rfl get1 ?_
  refine V_callV h st2 ci_X12_87 (pk_c get0 (pk_c get2 pk_n)) rfl 0 get0 rfl (m_X12_isPart l G _ _ _ _ _ _ _ _ _ _ _ _ _ (by omega) (by omega)) rfl rfl (Nat.le_of_ble_eq_true rfl) (by decide) ⟨rfl, rfl, rfl⟩ (dk dd_X12_remove_0 2 rfl) sk1 (sm_c set0 (sm_c set2 sm_n)) ?_
  refine V_ifz_ne (tgt := 11) h (dk dd_X12_remove_0 3 rfl) rfl (fun c5 => ?_) (fun c5 => ?_)
  · exact absurd c5 hA
  · refine V_ldc h q4_104 (dk dd_X12_remove_0 4 rfl) ?_
    refine V_iret h hF (dk dd_X12_remove_0 5 rfl) ⟨Nat.le_of_ble_eq_true rfl, Nat.le_of_ble_eq_true rfl⟩ ?_
    exact det_i (by first | rfl | omega) rfl

set_option maxHeartbeats 4000000 in
set_option maxRecDepth 100000 in
theorem m_mremove_ok (l : Launch) (G : GT) (x : Nat) (q : Nat → Nat) (pm ty ap fo wr rm hm sb be : Int) (pp vv : Int → Int) (k : Int) (hv : 0 ≤ vv 0 ∧ vv 0 ≤ 12) (hp : 0 ≤ pm ∧ pm ≤ 5) (hk : R32 k) (hA : 0 ≤ k ∧ k < vv 0) : Ctr l G yX12_remove cX12_remove 3 (Option.some FieldType.int) (rmO 2 0 0 43) [.ref x, .int (iZ k)] [(x, .inr (11, [.ref (q 1), .ref (q 2), .int (iZ pm), .ref (q 3), .int (iZ ty), .int (iZ ap), .int (iZ fo), .int (iZ wr), .ref (q 4), .ref (q 5), .ref (q 6), .ref (q 7), .ref (q 8), .ref (q 9), .ref (q 10), .int (iZ rm), .ref (q 11), .ref (q 12), .int (iZ hm), .ref (q 13), .ref (q 14), .ref (q 15), .ref (q 16), .int (iZ sb), .int (iZ be), .ref (q 17), .ref (q 18)])), ((q 2), .inl (G.2 0, 300, .inl (iF pp))), ((q 1), .inl (G.2 0, 60, .inl (iF vv)))] (Det (some (.int (iZ (vv 0 - 1)))) [(x, .inr (11, [.ref (q 1), .ref (q 2), .int (iZ (aM pm + 1)), .ref (q 3), .int (iZ ty), .int (iZ ap), .int (iZ fo), .int (iZ wr), .ref (q 4), .ref (q 5), .ref (q 6), .ref (q 7), .ref (q 8), .ref (q 9), .ref (q 10), .int (iZ rm), .ref (q 11), .ref (q 12), .int (iZ hm), .ref (q 13), .ref (q 14), .ref (q 15), .ref (q 16), .int (iZ sb), .int (iZ be), .ref (q 17), .ref (q 18)])), ((q 2), .inl (G.2 0, 300, .inl (iF (aP vv pp pm)))), ((q 1), .inl (G.2 0, 60, .inl (iF (rmF vv k))))]) := by
  refine Ctr.go (own := RX12) (nm := "remove") (by decide +kernel) rfl rfl [some (.ref x), some (.int (iZ k)), none] 1 rfl rfl (Nat.le_of_ble_eq_true rfl) ?_
  intro K h hF
  refine V_aload_n h (dk dd_X12_remove_0 0 rfl) rfl get0 ?_
  refine V_iload_n h (dk dd_X12_remove_0 1 rfl) rfl get1 ?_
  refine V_callV h st2 ci_X12_87 (pk_c get0 (pk_c get2 pk_n)) rfl 0 get0 rfl (m_X12_isPart l G _ _ _ _ _ _ _ _ _ _ _ _ _ (by omega) (by omega)) rfl rfl (Nat.le_of_ble_eq_true rfl) (by decide) ⟨rfl, rfl, rfl⟩ (dk dd_X12_remove_0 2 rfl) sk1 (sm_c set0 (sm_c set2 sm_n)) ?_
  refine V_ifz_ne (tgt := 11) h (dk dd_X12_remove_0 3 rfl) rfl (fun c5 => ?_) (fun c5 => ?_)
  · refine V_aload_n h (dk dd_X12_remove_0 6 rfl) rfl get0 ?_
    refine V_callV h st1 ci_X12_80 (pk_c get0 (pk_c get1 (pk_c get2 pk_n))) rfl 0 get0 rfl (m_X12_act l G _ _ _ _ _ _ _ _ _ _ _ _ _ (by omega)) rfl rfl (Nat.le_of_ble_eq_true rfl) (by decide) ⟨rfl, rfl, rfl⟩ (dk dd_X12_remove_0 7 rfl) sk0 (sm_c set0 (sm_c set1 (sm_c set2 sm_n))) ?_
    refine V_aload_n h (dk dd_X12_remove_0 8 rfl) rfl get0 ?_
    refine V_get h fl_X12_7 0 get0 get0 (dk dd_X12_remove_0 9 rfl) ?_
    refine V_iconst h (dk dd_X12_remove_0 10 rfl) ?_
    refine V_dup2 h (dk dd_X12_remove_0 11 rfl) rfl rfl ?_
    refine V_iald h 2 get2 (by omega) (dk dd_X12_remove_0 12 rfl) ?_
    refine V_iconst h (dk dd_X12_remove_0 13 rfl) ?_
    refine V_isub h (dk dd_X12_remove_0 14 rfl) ?_
    refine V_iast h 2 get2 (by omega) set2 (dk dd_X12_remove_0 15 rfl) ?_
    refine V_iconst h (dk dd_X12_remove_0 16 rfl) ?_
    refine V_iconst h (dk dd_X12_remove_0 17 rfl) ?_
    refine V_iload_n h (dk dd_X12_remove_0 18 rfl) rfl get1 ?_
    refine V_imul h (dk dd_X12_remove_0 19 rfl) ?_
    refine V_iadd h (dk dd_X12_remove_0 20 rfl) ?_
    refine V_istore_n h (dk dd_X12_remove_0 21 rfl) rfl (Nat.le_of_ble_eq_true rfl) rfl set2 ?_
    have L31 : ∀ (fu : Nat) (i : Int), 4 + 4 * k ≤ i ∧ i ≤ 4 + 4 * (vv 0 - 1) → (60 - i).toNat < fu → V K (0, 0) 31 [some (.ref x), some (.int (iZ k)), some (.int (iZ i))] [] [(x, .inr (11, [.ref (q 1), .ref (q 2), .int (iZ (aM pm + 1)), .ref (q 3), .int (iZ ty), .int (iZ ap), .int (iZ fo), .int (iZ wr), .ref (q 4), .ref (q 5), .ref (q 6), .ref (q 7), .ref (q 8), .ref (q 9), .ref (q 10), .int (iZ rm), .ref (q 11), .ref (q 12), .int (iZ hm), .ref (q 13), .ref (q 14), .ref (q 15), .ref (q 16), .int (iZ sb), .int (iZ be), .ref (q 17), .ref (q 18)])), ((q 2), .inl (G.2 0, 300, .inl (iF (aP vv pp pm)))), ((q 1), .inl (G.2 0, 60, .inl (iF (shL (zup vv 0 (vv 0 - 1)) (4 + 4 * k) i))))] := by
      intro fu
      induction fu with
      | zero => intro i _ hm; exact absurd hm (Nat.not_lt_zero _)
      | succ fu ih31 =>
        intro i hI31 hm31
        refine V_iload_n h (dk dd_X12_remove_0 22 rfl) rfl get2 ?_
        refine V_iconst h (dk dd_X12_remove_0 23 rfl) ?_
        refine V_iconst h (dk dd_X12_remove_0 24 rfl) ?_
        refine V_aload_n h (dk dd_X12_remove_0 25 rfl) rfl get0 ?_
        refine V_get h fl_X12_7 0 get0 get0 (dk dd_X12_remove_0 26 rfl) ?_
        refine V_iconst h (dk dd_X12_remove_0 27 rfl) ?_
        refine V_iald h 2 get2 (by omega) (dk dd_X12_remove_0 28 rfl) ?_
        rw [shL_lo (by omega), zup_s]
        refine V_imul h (dk dd_X12_remove_0 29 rfl) ?_
        refine V_iadd h (dk dd_X12_remove_0 30 rfl) ?_
        refine V_icmp_ge (tgt := 65) h (dk dd_X12_remove_0 31 rfl) rfl (by omega) (fun c42 => ?_) (fun c42 => ?_)
        · have e : i = 4 + 4 * (vv 0 - 1) := by omega
          subst e
          refine V_aload_n h (dk dd_X12_remove_0 44 rfl) rfl get0 ?_
          refine V_get h fl_X12_7 0 get0 get0 (dk dd_X12_remove_0 45 rfl) ?_
          refine V_iconst h (dk dd_X12_remove_0 46 rfl) ?_
          refine V_iald h 2 get2 (by omega) (dk dd_X12_remove_0 47 rfl) ?_
          rw [shL_lo (by omega), zup_s]
          refine V_iret h hF (dk dd_X12_remove_0 48 rfl) ⟨Nat.le_of_ble_eq_true rfl, Nat.le_of_ble_eq_true rfl⟩ ?_
          exact det_i (by first | rfl | omega) rfl
        · refine V_aload_n h (dk dd_X12_remove_0 32 rfl) rfl get0 ?_
          refine V_get h fl_X12_7 0 get0 get0 (dk dd_X12_remove_0 33 rfl) ?_
          refine V_iload_n h (dk dd_X12_remove_0 34 rfl) rfl get2 ?_
          refine V_aload_n h (dk dd_X12_remove_0 35 rfl) rfl get0 ?_
          refine V_get h fl_X12_7 0 get0 get0 (dk dd_X12_remove_0 36 rfl) ?_
          refine V_iload_n h (dk dd_X12_remove_0 37 rfl) rfl get2 ?_
          refine V_iconst h (dk dd_X12_remove_0 38 rfl) ?_
          refine V_iadd h (dk dd_X12_remove_0 39 rfl) ?_
          refine V_iald h 2 get2 (by omega) (dk dd_X12_remove_0 40 rfl) ?_
          refine V_iast h 2 get2 (by omega) set2 (dk dd_X12_remove_0 41 rfl) ?_
          rw [shL_s hI31.1]
          refine V_iinc h (dk dd_X12_remove_0 42 rfl) get2 (Nat.le_of_ble_eq_true rfl) rfl set2 ?_
          refine V_goto (tgt := 31) h (dk dd_X12_remove_0 43 rfl) rfl ?_
          exact ih31 _ (by omega) (by omega)
    have e0 := L31 _ (4 + 4 * k) (by omega) (Nat.lt_succ_self _)
    rw [shL_0] at e0
    exact e0
  · exact absurd hA c5

set_option maxHeartbeats 4000000 in
set_option maxRecDepth 100000 in
theorem m_X12_part (l : Launch) (G : GT) (x : Nat) (q : Nat → Nat) (pm ty ap fo wr rm hm sb be : Int) (vv : Int → Int) (k j : Int) (hv : 0 ≤ vv 0 ∧ vv 0 ≤ 12) (hk : R32 k) (hj : R32 j) : Ctr l G yX12_part cX12_part 3 (Option.some FieldType.int) (rmO 2 0 0 43) [.ref x, .int (iZ k), .int (iZ j)] [(x, .inr (11, [.ref (q 1), .ref (q 2), .int (iZ pm), .ref (q 3), .int (iZ ty), .int (iZ ap), .int (iZ fo), .int (iZ wr), .ref (q 4), .ref (q 5), .ref (q 6), .ref (q 7), .ref (q 8), .ref (q 9), .ref (q 10), .int (iZ rm), .ref (q 11), .ref (q 12), .int (iZ hm), .ref (q 13), .ref (q 14), .ref (q 15), .ref (q 16), .int (iZ sb), .int (iZ be), .ref (q 17), .ref (q 18)])), ((q 1), .inl (G.2 0, 60, .inl (iF vv)))] (Det (some (.int (iZ (numF (vv 0) (vF vv) k j)))) [(x, .inr (11, [.ref (q 1), .ref (q 2), .int (iZ pm), .ref (q 3), .int (iZ ty), .int (iZ ap), .int (iZ fo), .int (iZ wr), .ref (q 4), .ref (q 5), .ref (q 6), .ref (q 7), .ref (q 8), .ref (q 9), .ref (q 10), .int (iZ rm), .ref (q 11), .ref (q 12), .int (iZ hm), .ref (q 13), .ref (q 14), .ref (q 15), .ref (q 16), .int (iZ sb), .int (iZ be), .ref (q 17), .ref (q 18)])), ((q 1), .inl (G.2 0, 60, .inl (iF vv)))]) := by
  refine Ctr.go (own := RX12) (nm := "part") (by decide +kernel) rfl rfl [some (.ref x), some (.int (iZ k)), some (.int (iZ j))] 0 rfl rfl (Nat.le_of_ble_eq_true rfl) ?_
  intro K h hF
  refine V_aload_n h (dk dd_X12_part_0 0 rfl) rfl get0 ?_
  refine V_iload_n h (dk dd_X12_part_0 1 rfl) rfl get1 ?_
  refine V_callV h st2 ci_X12_87 (pk_c get0 (pk_c get1 pk_n)) rfl 0 get0 rfl (m_X12_isPart l G _ _ _ _ _ _ _ _ _ _ _ _ _ (by omega) (by omega)) rfl rfl (Nat.le_of_ble_eq_true rfl) (by decide) ⟨rfl, rfl, rfl⟩ (dk dd_X12_part_0 2 rfl) sk1 (sm_c set0 (sm_c set1 sm_n)) ?_
  refine V_ifz_eq (tgt := 32) h (dk dd_X12_part_0 3 rfl) rfl (fun c5 => ?_) (fun c5 => ?_)
  · refine V_ldc h q4_104 (dk dd_X12_part_0 20 rfl) ?_
    refine V_iret h hF (dk dd_X12_part_0 21 rfl) ⟨Nat.le_of_ble_eq_true rfl, Nat.le_of_ble_eq_true rfl⟩ ?_
    first | exact det_i (by unfold numF; rw [if_neg (by omega)]) rfl | exact det_i (by unfold numF; rw [if_pos (by omega)]; exact congrArg vv (by omega)) rfl
  · refine V_iload_n h (dk dd_X12_part_0 4 rfl) rfl get2 ?_
    refine V_iconst h (dk dd_X12_part_0 5 rfl) ?_
    refine V_iconst h (dk dd_X12_part_0 6 rfl) ?_
    refine V_callS h st3 ci_X12_70 pk_n rfl (m_X12_in l G _ _ _ (by omega) (by omega) (by omega)) rfl rfl (Nat.le_of_ble_eq_true rfl) (by decide) ⟨rfl, rfl, rfl⟩ (dk dd_X12_part_0 7 rfl) sk1 sm_n ?_
    refine V_ifz_eq (tgt := 32) h (dk dd_X12_part_0 8 rfl) rfl (fun c14 => ?_) (fun c14 => ?_)
    · refine V_ldc h q4_104 (dk dd_X12_part_0 20 rfl) ?_
      refine V_iret h hF (dk dd_X12_part_0 21 rfl) ⟨Nat.le_of_ble_eq_true rfl, Nat.le_of_ble_eq_true rfl⟩ ?_
      first | exact det_i (by unfold numF; rw [if_neg (by omega)]) rfl | exact det_i (by unfold numF; rw [if_pos (by omega)]; exact congrArg vv (by omega)) rfl
    · refine V_aload_n h (dk dd_X12_part_0 9 rfl) rfl get0 ?_
      refine V_get h fl_X12_7 0 get0 get0 (dk dd_X12_part_0 10 rfl) ?_
      refine V_iconst h (dk dd_X12_part_0 11 rfl) ?_
      refine V_iconst h (dk dd_X12_part_0 12 rfl) ?_
      refine V_iload_n h (dk dd_X12_part_0 13 rfl) rfl get1 ?_
      refine V_imul h (dk dd_X12_part_0 14 rfl) ?_
      refine V_iadd h (dk dd_X12_part_0 15 rfl) ?_
      refine V_iload_n h (dk dd_X12_part_0 16 rfl) rfl get2 ?_
      refine V_iadd h (dk dd_X12_part_0 17 rfl) ?_
      refine V_iald h 1 get1 (by omega) (dk dd_X12_part_0 18 rfl) ?_
      refine V_goto (tgt := 34) h (dk dd_X12_part_0 19 rfl) rfl ?_
      refine V_iret h hF (dk dd_X12_part_0 21 rfl) ⟨Nat.le_of_ble_eq_true rfl, Nat.le_of_ble_eq_true rfl⟩ ?_
      first | exact det_i (by unfold numF; rw [if_neg (by omega)]) rfl | exact det_i (by unfold numF; rw [if_pos (by omega)]; exact congrArg vv (by omega)) rfl

set_option maxHeartbeats 4000000 in
set_option maxRecDepth 100000 in
theorem m_X12_parts (l : Launch) (G : GT) (x : Nat) (q : Nat → Nat) (pm ty ap fo wr rm hm sb be : Int) (vv : Int → Int)  : Ctr l G yX12_parts cX12_parts 1 (Option.some FieldType.int) (rmO 0 0 0 0) [.ref x] [(x, .inr (11, [.ref (q 1), .ref (q 2), .int (iZ pm), .ref (q 3), .int (iZ ty), .int (iZ ap), .int (iZ fo), .int (iZ wr), .ref (q 4), .ref (q 5), .ref (q 6), .ref (q 7), .ref (q 8), .ref (q 9), .ref (q 10), .int (iZ rm), .ref (q 11), .ref (q 12), .int (iZ hm), .ref (q 13), .ref (q 14), .ref (q 15), .ref (q 16), .int (iZ sb), .int (iZ be), .ref (q 17), .ref (q 18)])), ((q 1), .inl (G.2 0, 60, .inl (iF vv)))] (Det (some (.int (iZ (vv 0)))) [(x, .inr (11, [.ref (q 1), .ref (q 2), .int (iZ pm), .ref (q 3), .int (iZ ty), .int (iZ ap), .int (iZ fo), .int (iZ wr), .ref (q 4), .ref (q 5), .ref (q 6), .ref (q 7), .ref (q 8), .ref (q 9), .ref (q 10), .int (iZ rm), .ref (q 11), .ref (q 12), .int (iZ hm), .ref (q 13), .ref (q 14), .ref (q 15), .ref (q 16), .int (iZ sb), .int (iZ be), .ref (q 17), .ref (q 18)])), ((q 1), .inl (G.2 0, 60, .inl (iF vv)))]) := by
  refine Ctr.go (own := RX12) (nm := "parts") (by decide +kernel) rfl rfl [some (.ref x)] 0 rfl rfl (Nat.le_of_ble_eq_true rfl) ?_
  intro K h hF
  refine V_aload_n h (dk dd_X12_parts_0 0 rfl) rfl get0 ?_
  refine V_get h fl_X12_7 0 get0 get0 (dk dd_X12_parts_0 1 rfl) ?_
  refine V_iconst h (dk dd_X12_parts_0 2 rfl) ?_
  refine V_iald h 1 get1 (by omega) (dk dd_X12_parts_0 3 rfl) ?_
  refine V_iret h hF (dk dd_X12_parts_0 4 rfl) ⟨Nat.le_of_ble_eq_true rfl, Nat.le_of_ble_eq_true rfl⟩ ?_
  exact det_i (by first | rfl | omega) rfl

set_option maxHeartbeats 4000000 in
set_option maxRecDepth 100000 in
theorem m_X12_sets (l : Launch) (G : GT) (x : Nat) (q : Nat → Nat) (pm ty ap fo wr rm hm sb be : Int) (pp vv : Int → Int) (a b : Int) (hv : 0 ≤ vv 0 ∧ vv 0 ≤ 12) (hp : 0 ≤ pm ∧ pm ≤ 5) (ha : 0 ≤ a ∧ a < 60) : Ctr l G yX12_sets cX12_sets 4 (Option.some FieldType.int) (rmO 1 0 0 21) [.ref x, .int (iZ a), .int (iZ b)] [(x, .inr (11, [.ref (q 1), .ref (q 2), .int (iZ pm), .ref (q 3), .int (iZ ty), .int (iZ ap), .int (iZ fo), .int (iZ wr), .ref (q 4), .ref (q 5), .ref (q 6), .ref (q 7), .ref (q 8), .ref (q 9), .ref (q 10), .int (iZ rm), .ref (q 11), .ref (q 12), .int (iZ hm), .ref (q 13), .ref (q 14), .ref (q 15), .ref (q 16), .int (iZ sb), .int (iZ be), .ref (q 17), .ref (q 18)])), ((q 2), .inl (G.2 0, 300, .inl (iF pp))), ((q 1), .inl (G.2 0, 60, .inl (iF vv)))] (Det (some (.int (iZ (vv a)))) [(x, .inr (11, [.ref (q 1), .ref (q 2), .int (iZ (aM pm + 1)), .ref (q 3), .int (iZ ty), .int (iZ ap), .int (iZ fo), .int (iZ wr), .ref (q 4), .ref (q 5), .ref (q 6), .ref (q 7), .ref (q 8), .ref (q 9), .ref (q 10), .int (iZ rm), .ref (q 11), .ref (q 12), .int (iZ hm), .ref (q 13), .ref (q 14), .ref (q 15), .ref (q 16), .int (iZ sb), .int (iZ be), .ref (q 17), .ref (q 18)])), ((q 2), .inl (G.2 0, 300, .inl (iF (aP vv pp pm)))), ((q 1), .inl (G.2 0, 60, .inl (iF (zup vv a b))))]) := by
  refine Ctr.go (own := RX12) (nm := "sets") (by decide +kernel) rfl rfl [some (.ref x), some (.int (iZ a)), some (.int (iZ b)), none] 1 rfl rfl (Nat.le_of_ble_eq_true rfl) ?_
  intro K h hF
  refine V_aload_n h (dk dd_X12_sets_0 0 rfl) rfl get0 ?_
  refine V_callV h st1 ci_X12_80 (pk_c get0 (pk_c get1 (pk_c get2 pk_n))) rfl 0 get0 rfl (m_X12_act l G _ _ _ _ _ _ _ _ _ _ _ _ _ (by omega)) rfl rfl (Nat.le_of_ble_eq_true rfl) (by decide) ⟨rfl, rfl, rfl⟩ (dk dd_X12_sets_0 1 rfl) sk0 (sm_c set0 (sm_c set1 (sm_c set2 sm_n))) ?_
  refine V_aload_n h (dk dd_X12_sets_0 2 rfl) rfl get0 ?_
  refine V_get h fl_X12_7 0 get0 get0 (dk dd_X12_sets_0 3 rfl) ?_
  refine V_iload_n h (dk dd_X12_sets_0 4 rfl) rfl get1 ?_
  refine V_iald h 2 get2 (by omega) (dk dd_X12_sets_0 5 rfl) ?_
  refine V_istore_n h (dk dd_X12_sets_0 6 rfl) rfl (Nat.le_of_ble_eq_true rfl) rfl set3 ?_
  refine V_aload_n h (dk dd_X12_sets_0 7 rfl) rfl get0 ?_
  refine V_get h fl_X12_7 0 get0 get0 (dk dd_X12_sets_0 8 rfl) ?_
  refine V_iload_n h (dk dd_X12_sets_0 9 rfl) rfl get1 ?_
  refine V_iload_n h (dk dd_X12_sets_0 10 rfl) rfl get2 ?_
  refine V_iast h 2 get2 (by omega) set2 (dk dd_X12_sets_0 11 rfl) ?_
  refine V_iload_n h (dk dd_X12_sets_0 12 rfl) rfl get3 ?_
  refine V_iret h hF (dk dd_X12_sets_0 13 rfl) ⟨Nat.le_of_ble_eq_true rfl, Nat.le_of_ble_eq_true rfl⟩ ?_
  exact det_i (by first | rfl | omega) rfl

set_option maxHeartbeats 4000000 in
set_option maxRecDepth 100000 in
theorem m_msetLoss_bad (l : Launch) (G : GT) (x : Nat) (q : Nat → Nat) (pm ty ap fo wr rm hm sb be : Int) (pp vv : Int → Int) (k : Int) (hv : 0 ≤ vv 0 ∧ vv 0 ≤ 12) (hp : 0 ≤ pm ∧ pm ≤ 5) (hk : R32 k) (hA : ¬ (0 ≤ k ∧ k ≤ 999)) : Ctr l G yX12_setLoss cX12_setLoss 2 (Option.some FieldType.int) (rmO 2 0 0 44) [.ref x, .int (iZ k)] [(x, .inr (11, [.ref (q 1), .ref (q 2), .int (iZ pm), .ref (q 3), .int (iZ ty), .int (iZ ap), .int (iZ fo), .int (iZ wr), .ref (q 4), .ref (q 5), .ref (q 6), .ref (q 7), .ref (q 8), .ref (q 9), .ref (q 10), .int (iZ rm), .ref (q 11), .ref (q 12), .int (iZ hm), .ref (q 13), .ref (q 14), .ref (q 15), .ref (q 16), .int (iZ sb), .int (iZ be), .ref (q 17), .ref (q 18)])), ((q 2), .inl (G.2 0, 300, .inl (iF pp))), ((q 1), .inl (G.2 0, 60, .inl (iF vv)))] (Det (some (.int (iZ (-100001)))) [(x, .inr (11, [.ref (q 1), .ref (q 2), .int (iZ pm), .ref (q 3), .int (iZ ty), .int (iZ ap), .int (iZ fo), .int (iZ wr), .ref (q 4), .ref (q 5), .ref (q 6), .ref (q 7), .ref (q 8), .ref (q 9), .ref (q 10), .int (iZ rm), .ref (q 11), .ref (q 12), .int (iZ hm), .ref (q 13), .ref (q 14), .ref (q 15), .ref (q 16), .int (iZ sb), .int (iZ be), .ref (q 17), .ref (q 18)])), ((q 2), .inl (G.2 0, 300, .inl (iF pp))), ((q 1), .inl (G.2 0, 60, .inl (iF vv)))]) := by
  refine Ctr.go (own := RX12) (nm := "setLoss") (by decide +kernel) rfl rfl [some (.ref x), some (.int (iZ k))] 0 rfl rfl (Nat.le_of_ble_eq_true rfl) ?_
  intro K h hF
  refine V_iload_n h (dk dd_X12_setLoss_0 0 rfl) rfl get1 ?_
  refine V_iconst h (dk dd_X12_setLoss_0 1 rfl) ?_
  refine V_sipush h (dk dd_X12_setLoss_0 2 rfl) (by decide) ?_
  refine V_callS h st3 ci_X12_70 pk_n rfl (m_X12_in l G _ _ _ (by omega) (by omega) (by omega)) rfl rfl (Nat.le_of_ble_eq_true rfl) (by decide) ⟨rfl, rfl, rfl⟩ (dk dd_X12_setLoss_0 3 rfl) sk1 sm_n ?_
  refine V_ifz_eq (tgt := 20) h (dk dd_X12_setLoss_0 4 rfl) rfl (fun c8 => ?_) (fun c8 => ?_)
  · refine V_ldc h q4_104 (dk dd_X12_setLoss_0 10 rfl) ?_
    refine V_iret h hF (dk dd_X12_setLoss_0 11 rfl) ⟨Nat.le_of_ble_eq_true rfl, Nat.le_of_ble_eq_true rfl⟩ ?_
    exact det_i (by first | rfl | omega) rfl
  · exfalso; omega

set_option maxHeartbeats 4000000 in
set_option maxRecDepth 100000 in
theorem m_msetLoss_ok (l : Launch) (G : GT) (x : Nat) (q : Nat → Nat) (pm ty ap fo wr rm hm sb be : Int) (pp vv : Int → Int) (k : Int) (hv : 0 ≤ vv 0 ∧ vv 0 ≤ 12) (hp : 0 ≤ pm ∧ pm ≤ 5) (hk : R32 k) (hA : 0 ≤ k ∧ k ≤ 999) : Ctr l G yX12_setLoss cX12_setLoss 2 (Option.some FieldType.int) (rmO 2 0 0 44) [.ref x, .int (iZ k)] [(x, .inr (11, [.ref (q 1), .ref (q 2), .int (iZ pm), .ref (q 3), .int (iZ ty), .int (iZ ap), .int (iZ fo), .int (iZ wr), .ref (q 4), .ref (q 5), .ref (q 6), .ref (q 7), .ref (q 8), .ref (q 9), .ref (q 10), .int (iZ rm), .ref (q 11), .ref (q 12), .int (iZ hm), .ref (q 13), .ref (q 14), .ref (q 15), .ref (q 16), .int (iZ sb), .int (iZ be), .ref (q 17), .ref (q 18)])), ((q 2), .inl (G.2 0, 300, .inl (iF pp))), ((q 1), .inl (G.2 0, 60, .inl (iF vv)))] (Det (some (.int (iZ (vv 1)))) [(x, .inr (11, [.ref (q 1), .ref (q 2), .int (iZ (aM pm + 1)), .ref (q 3), .int (iZ ty), .int (iZ ap), .int (iZ fo), .int (iZ wr), .ref (q 4), .ref (q 5), .ref (q 6), .ref (q 7), .ref (q 8), .ref (q 9), .ref (q 10), .int (iZ rm), .ref (q 11), .ref (q 12), .int (iZ hm), .ref (q 13), .ref (q 14), .ref (q 15), .ref (q 16), .int (iZ sb), .int (iZ be), .ref (q 17), .ref (q 18)])), ((q 2), .inl (G.2 0, 300, .inl (iF (aP vv pp pm)))), ((q 1), .inl (G.2 0, 60, .inl (iF (zup vv 1 k))))]) := by
  refine Ctr.go (own := RX12) (nm := "setLoss") (by decide +kernel) rfl rfl [some (.ref x), some (.int (iZ k))] 0 rfl rfl (Nat.le_of_ble_eq_true rfl) ?_
  intro K h hF
  refine V_iload_n h (dk dd_X12_setLoss_0 0 rfl) rfl get1 ?_
  refine V_iconst h (dk dd_X12_setLoss_0 1 rfl) ?_
  refine V_sipush h (dk dd_X12_setLoss_0 2 rfl) (by decide) ?_
  refine V_callS h st3 ci_X12_70 pk_n rfl (m_X12_in l G _ _ _ (by omega) (by omega) (by omega)) rfl rfl (Nat.le_of_ble_eq_true rfl) (by decide) ⟨rfl, rfl, rfl⟩ (dk dd_X12_setLoss_0 3 rfl) sk1 sm_n ?_
  refine V_ifz_eq (tgt := 20) h (dk dd_X12_setLoss_0 4 rfl) rfl (fun c8 => ?_) (fun c8 => ?_)
  · exfalso; omega
  · refine V_aload_n h (dk dd_X12_setLoss_0 5 rfl) rfl get0 ?_
    refine V_iconst h (dk dd_X12_setLoss_0 6 rfl) ?_
    refine V_iload_n h (dk dd_X12_setLoss_0 7 rfl) rfl get1 ?_
    refine V_callV h st3 ci_X12_91 (pk_c get0 (pk_c get1 (pk_c get2 pk_n))) rfl 0 get0 rfl (m_X12_sets l G _ _ _ _ _ _ _ _ _ _ _ _ _ _ _ (by omega) (by omega) (by omega)) rfl rfl (Nat.le_of_ble_eq_true rfl) (by decide) ⟨rfl, rfl, rfl⟩ (dk dd_X12_setLoss_0 8 rfl) sk1 (sm_c set0 (sm_c set1 (sm_c set2 sm_n))) ?_
    refine V_goto (tgt := 22) h (dk dd_X12_setLoss_0 9 rfl) rfl ?_
    refine V_iret h hF (dk dd_X12_setLoss_0 11 rfl) ⟨Nat.le_of_ble_eq_true rfl, Nat.le_of_ble_eq_true rfl⟩ ?_
    exact det_i (by first | rfl | omega) rfl

set_option maxHeartbeats 4000000 in
set_option maxRecDepth 100000 in
theorem m_msetThreshold_bad (l : Launch) (G : GT) (x : Nat) (q : Nat → Nat) (pm ty ap fo wr rm hm sb be : Int) (pp vv : Int → Int) (k : Int) (hv : 0 ≤ vv 0 ∧ vv 0 ≤ 12) (hp : 0 ≤ pm ∧ pm ≤ 5) (hk : R32 k) (hA : ¬ (1 ≤ k ∧ k ≤ 1000000)) : Ctr l G yX12_setThreshold cX12_setThreshold 2 (Option.some FieldType.int) (rmO 2 0 0 44) [.ref x, .int (iZ k)] [(x, .inr (11, [.ref (q 1), .ref (q 2), .int (iZ pm), .ref (q 3), .int (iZ ty), .int (iZ ap), .int (iZ fo), .int (iZ wr), .ref (q 4), .ref (q 5), .ref (q 6), .ref (q 7), .ref (q 8), .ref (q 9), .ref (q 10), .int (iZ rm), .ref (q 11), .ref (q 12), .int (iZ hm), .ref (q 13), .ref (q 14), .ref (q 15), .ref (q 16), .int (iZ sb), .int (iZ be), .ref (q 17), .ref (q 18)])), ((q 2), .inl (G.2 0, 300, .inl (iF pp))), ((q 1), .inl (G.2 0, 60, .inl (iF vv)))] (Det (some (.int (iZ (-100001)))) [(x, .inr (11, [.ref (q 1), .ref (q 2), .int (iZ pm), .ref (q 3), .int (iZ ty), .int (iZ ap), .int (iZ fo), .int (iZ wr), .ref (q 4), .ref (q 5), .ref (q 6), .ref (q 7), .ref (q 8), .ref (q 9), .ref (q 10), .int (iZ rm), .ref (q 11), .ref (q 12), .int (iZ hm), .ref (q 13), .ref (q 14), .ref (q 15), .ref (q 16), .int (iZ sb), .int (iZ be), .ref (q 17), .ref (q 18)])), ((q 2), .inl (G.2 0, 300, .inl (iF pp))), ((q 1), .inl (G.2 0, 60, .inl (iF vv)))]) := by
  refine Ctr.go (own := RX12) (nm := "setThreshold") (by decide +kernel) rfl rfl [some (.ref x), some (.int (iZ k))] 0 rfl rfl (Nat.le_of_ble_eq_true rfl) ?_
  intro K h hF
  refine V_iload_n h (dk dd_X12_setThreshold_0 0 rfl) rfl get1 ?_
  refine V_iconst h (dk dd_X12_setThreshold_0 1 rfl) ?_
  refine V_ldc h q4_142 (dk dd_X12_setThreshold_0 2 rfl) ?_
  refine V_callS h st3 ci_X12_70 pk_n rfl (m_X12_in l G _ _ _ (by omega) (by omega) (by omega)) rfl rfl (Nat.le_of_ble_eq_true rfl) (by decide) ⟨rfl, rfl, rfl⟩ (dk dd_X12_setThreshold_0 3 rfl) sk1 sm_n ?_
  refine V_ifz_eq (tgt := 19) h (dk dd_X12_setThreshold_0 4 rfl) rfl (fun c7 => ?_) (fun c7 => ?_)
  · refine V_ldc h q4_104 (dk dd_X12_setThreshold_0 10 rfl) ?_
    refine V_iret h hF (dk dd_X12_setThreshold_0 11 rfl) ⟨Nat.le_of_ble_eq_true rfl, Nat.le_of_ble_eq_true rfl⟩ ?_
    exact det_i (by first | rfl | omega) rfl
  · exfalso; omega

set_option maxHeartbeats 4000000 in
set_option maxRecDepth 100000 in
theorem m_msetThreshold_ok (l : Launch) (G : GT) (x : Nat) (q : Nat → Nat) (pm ty ap fo wr rm hm sb be : Int) (pp vv : Int → Int) (k : Int) (hv : 0 ≤ vv 0 ∧ vv 0 ≤ 12) (hp : 0 ≤ pm ∧ pm ≤ 5) (hk : R32 k) (hA : 1 ≤ k ∧ k ≤ 1000000) : Ctr l G yX12_setThreshold cX12_setThreshold 2 (Option.some FieldType.int) (rmO 2 0 0 44) [.ref x, .int (iZ k)] [(x, .inr (11, [.ref (q 1), .ref (q 2), .int (iZ pm), .ref (q 3), .int (iZ ty), .int (iZ ap), .int (iZ fo), .int (iZ wr), .ref (q 4), .ref (q 5), .ref (q 6), .ref (q 7), .ref (q 8), .ref (q 9), .ref (q 10), .int (iZ rm), .ref (q 11), .ref (q 12), .int (iZ hm), .ref (q 13), .ref (q 14), .ref (q 15), .ref (q 16), .int (iZ sb), .int (iZ be), .ref (q 17), .ref (q 18)])), ((q 2), .inl (G.2 0, 300, .inl (iF pp))), ((q 1), .inl (G.2 0, 60, .inl (iF vv)))] (Det (some (.int (iZ (vv 2)))) [(x, .inr (11, [.ref (q 1), .ref (q 2), .int (iZ (aM pm + 1)), .ref (q 3), .int (iZ ty), .int (iZ ap), .int (iZ fo), .int (iZ wr), .ref (q 4), .ref (q 5), .ref (q 6), .ref (q 7), .ref (q 8), .ref (q 9), .ref (q 10), .int (iZ rm), .ref (q 11), .ref (q 12), .int (iZ hm), .ref (q 13), .ref (q 14), .ref (q 15), .ref (q 16), .int (iZ sb), .int (iZ be), .ref (q 17), .ref (q 18)])), ((q 2), .inl (G.2 0, 300, .inl (iF (aP vv pp pm)))), ((q 1), .inl (G.2 0, 60, .inl (iF (zup vv 2 k))))]) := by
  refine Ctr.go (own := RX12) (nm := "setThreshold") (by decide +kernel) rfl rfl [some (.ref x), some (.int (iZ k))] 0 rfl rfl (Nat.le_of_ble_eq_true rfl) ?_
  intro K h hF
  refine V_iload_n h (dk dd_X12_setThreshold_0 0 rfl) rfl get1 ?_
  refine V_iconst h (dk dd_X12_setThreshold_0 1 rfl) ?_
  refine V_ldc h q4_142 (dk dd_X12_setThreshold_0 2 rfl) ?_
  refine V_callS h st3 ci_X12_70 pk_n rfl (m_X12_in l G _ _ _ (by omega) (by omega) (by omega)) rfl rfl (Nat.le_of_ble_eq_true rfl) (by decide) ⟨rfl, rfl, rfl⟩ (dk dd_X12_setThreshold_0 3 rfl) sk1 sm_n ?_
  refine V_ifz_eq (tgt := 19) h (dk dd_X12_setThreshold_0 4 rfl) rfl (fun c7 => ?_) (fun c7 => ?_)
  · exfalso; omega
  · refine V_aload_n h (dk dd_X12_setThreshold_0 5 rfl) rfl get0 ?_
    refine V_iconst h (dk dd_X12_setThreshold_0 6 rfl) ?_
    refine V_iload_n h (dk dd_X12_setThreshold_0 7 rfl) rfl get1 ?_
    refine V_callV h st3 ci_X12_91 (pk_c get0 (pk_c get1 (pk_c get2 pk_n))) rfl 0 get0 rfl (m_X12_sets l G _ _ _ _ _ _ _ _ _ _ _ _ _ _ _ (by omega) (by omega) (by omega)) rfl rfl (Nat.le_of_ble_eq_true rfl) (by decide) ⟨rfl, rfl, rfl⟩ (dk dd_X12_setThreshold_0 8 rfl) sk1 (sm_c set0 (sm_c set1 (sm_c set2 sm_n))) ?_
    refine V_goto (tgt := 21) h (dk dd_X12_setThreshold_0 9 rfl) rfl ?_
    refine V_iret h hF (dk dd_X12_setThreshold_0 11 rfl) ⟨Nat.le_of_ble_eq_true rfl, Nat.le_of_ble_eq_true rfl⟩ ?_
    exact det_i (by first | rfl | omega) rfl

set_option maxHeartbeats 4000000 in
set_option maxRecDepth 100000 in
theorem m_mtype_bad (l : Launch) (G : GT) (x : Nat) (q : Nat → Nat) (pm ty ap fo wr rm hm sb be : Int) (tx : Int → Int) (k : Int) (ht : 0 ≤ ty ∧ ty ≤ 60) (hk : R32 k) (hA : ¬ (32 ≤ k ∧ k ≤ 126)) : Ctr l G yX12_type cX12_type 2 (Option.some FieldType.int) (rmO 1 0 0 22) [.ref x, .int (iZ k)] [(x, .inr (11, [.ref (q 1), .ref (q 2), .int (iZ pm), .ref (q 3), .int (iZ ty), .int (iZ ap), .int (iZ fo), .int (iZ wr), .ref (q 4), .ref (q 5), .ref (q 6), .ref (q 7), .ref (q 8), .ref (q 9), .ref (q 10), .int (iZ rm), .ref (q 11), .ref (q 12), .int (iZ hm), .ref (q 13), .ref (q 14), .ref (q 15), .ref (q 16), .int (iZ sb), .int (iZ be), .ref (q 17), .ref (q 18)])), ((q 3), .inl (G.2 0, 60, .inl (iF tx)))] (Det (some (.int (iZ (-100001)))) [(x, .inr (11, [.ref (q 1), .ref (q 2), .int (iZ pm), .ref (q 3), .int (iZ ty), .int (iZ ap), .int (iZ fo), .int (iZ wr), .ref (q 4), .ref (q 5), .ref (q 6), .ref (q 7), .ref (q 8), .ref (q 9), .ref (q 10), .int (iZ rm), .ref (q 11), .ref (q 12), .int (iZ hm), .ref (q 13), .ref (q 14), .ref (q 15), .ref (q 16), .int (iZ sb), .int (iZ be), .ref (q 17), .ref (q 18)])), ((q 3), .inl (G.2 0, 60, .inl (iF tx)))]) := by
  refine Ctr.go (own := RX12) (nm := "type") (by decide +kernel) rfl rfl [some (.ref x), some (.int (iZ k))] 0 rfl rfl (Nat.le_of_ble_eq_true rfl) ?_
  intro K h hF
  refine V_iload_n h (dk dd_X12_type_0 0 rfl) rfl get1 ?_
  refine V_bipush h (dk dd_X12_type_0 1 rfl) (by decide) ?_
  refine V_bipush h (dk dd_X12_type_0 2 rfl) (by decide) ?_
  refine V_callS h st3 ci_X12_70 pk_n rfl (m_X12_in l G _ _ _ (by omega) (by omega) (by omega)) rfl rfl (Nat.le_of_ble_eq_true rfl) (by decide) ⟨rfl, rfl, rfl⟩ (dk dd_X12_type_0 3 rfl) sk1 sm_n ?_
  refine V_ifz_ne (tgt := 14) h (dk dd_X12_type_0 4 rfl) rfl (fun c8 => ?_) (fun c8 => ?_)
  · exfalso; omega
  · refine V_ldc h q4_104 (dk dd_X12_type_0 5 rfl) ?_
    refine V_iret h hF (dk dd_X12_type_0 6 rfl) ⟨Nat.le_of_ble_eq_true rfl, Nat.le_of_ble_eq_true rfl⟩ ?_
    exact det_i (by first | rfl | omega) rfl

set_option maxHeartbeats 4000000 in
set_option maxRecDepth 100000 in
theorem m_mtype_full (l : Launch) (G : GT) (x : Nat) (q : Nat → Nat) (pm ty ap fo wr rm hm sb be : Int) (tx : Int → Int) (k : Int) (ht : 0 ≤ ty ∧ ty ≤ 60) (hk : R32 k) (hA : 32 ≤ k ∧ k ≤ 126) (hl : ty = 60) : Ctr l G yX12_type cX12_type 2 (Option.some FieldType.int) (rmO 1 0 0 22) [.ref x, .int (iZ k)] [(x, .inr (11, [.ref (q 1), .ref (q 2), .int (iZ pm), .ref (q 3), .int (iZ ty), .int (iZ ap), .int (iZ fo), .int (iZ wr), .ref (q 4), .ref (q 5), .ref (q 6), .ref (q 7), .ref (q 8), .ref (q 9), .ref (q 10), .int (iZ rm), .ref (q 11), .ref (q 12), .int (iZ hm), .ref (q 13), .ref (q 14), .ref (q 15), .ref (q 16), .int (iZ sb), .int (iZ be), .ref (q 17), .ref (q 18)])), ((q 3), .inl (G.2 0, 60, .inl (iF tx)))] (Det (some (.int (iZ (-100003)))) [(x, .inr (11, [.ref (q 1), .ref (q 2), .int (iZ pm), .ref (q 3), .int (iZ ty), .int (iZ ap), .int (iZ fo), .int (iZ wr), .ref (q 4), .ref (q 5), .ref (q 6), .ref (q 7), .ref (q 8), .ref (q 9), .ref (q 10), .int (iZ rm), .ref (q 11), .ref (q 12), .int (iZ hm), .ref (q 13), .ref (q 14), .ref (q 15), .ref (q 16), .int (iZ sb), .int (iZ be), .ref (q 17), .ref (q 18)])), ((q 3), .inl (G.2 0, 60, .inl (iF tx)))]) := by
  refine Ctr.go (own := RX12) (nm := "type") (by decide +kernel) rfl rfl [some (.ref x), some (.int (iZ k))] 0 rfl rfl (Nat.le_of_ble_eq_true rfl) ?_
  intro K h hF
  refine V_iload_n h (dk dd_X12_type_0 0 rfl) rfl get1 ?_
  refine V_bipush h (dk dd_X12_type_0 1 rfl) (by decide) ?_
  refine V_bipush h (dk dd_X12_type_0 2 rfl) (by decide) ?_
  refine V_callS h st3 ci_X12_70 pk_n rfl (m_X12_in l G _ _ _ (by omega) (by omega) (by omega)) rfl rfl (Nat.le_of_ble_eq_true rfl) (by decide) ⟨rfl, rfl, rfl⟩ (dk dd_X12_type_0 3 rfl) sk1 sm_n ?_
  refine V_ifz_ne (tgt := 14) h (dk dd_X12_type_0 4 rfl) rfl (fun c8 => ?_) (fun c8 => ?_)
  · refine V_aload_n h (dk dd_X12_type_0 7 rfl) rfl get0 ?_
    refine V_get h fl_X12_96 0 get0 get4 (dk dd_X12_type_0 8 rfl) ?_
    refine V_bipush h (dk dd_X12_type_0 9 rfl) (by decide) ?_
    refine V_icmp_ne (tgt := 26) h (dk dd_X12_type_0 10 rfl) rfl (by omega) (fun c20 => ?_) (fun c20 => ?_)
    · exfalso; omega
    · refine V_ldc h q4_105 (dk dd_X12_type_0 11 rfl) ?_
      refine V_iret h hF (dk dd_X12_type_0 12 rfl) ⟨Nat.le_of_ble_eq_true rfl, Nat.le_of_ble_eq_true rfl⟩ ?_
      exact det_i (by first | rfl | omega) rfl
  · exfalso; omega

set_option maxHeartbeats 4000000 in
set_option maxRecDepth 100000 in
theorem m_mtype_ok (l : Launch) (G : GT) (x : Nat) (q : Nat → Nat) (pm ty ap fo wr rm hm sb be : Int) (tx : Int → Int) (k : Int) (ht : 0 ≤ ty ∧ ty ≤ 60) (hk : R32 k) (hA : 32 ≤ k ∧ k ≤ 126) (hl : ty < 60) : Ctr l G yX12_type cX12_type 2 (Option.some FieldType.int) (rmO 1 0 0 22) [.ref x, .int (iZ k)] [(x, .inr (11, [.ref (q 1), .ref (q 2), .int (iZ pm), .ref (q 3), .int (iZ ty), .int (iZ ap), .int (iZ fo), .int (iZ wr), .ref (q 4), .ref (q 5), .ref (q 6), .ref (q 7), .ref (q 8), .ref (q 9), .ref (q 10), .int (iZ rm), .ref (q 11), .ref (q 12), .int (iZ hm), .ref (q 13), .ref (q 14), .ref (q 15), .ref (q 16), .int (iZ sb), .int (iZ be), .ref (q 17), .ref (q 18)])), ((q 3), .inl (G.2 0, 60, .inl (iF tx)))] (Det (some (.int (iZ (ty + 1)))) [(x, .inr (11, [.ref (q 1), .ref (q 2), .int (iZ pm), .ref (q 3), .int (iZ (ty + 1)), .int (iZ ap), .int (iZ fo), .int (iZ wr), .ref (q 4), .ref (q 5), .ref (q 6), .ref (q 7), .ref (q 8), .ref (q 9), .ref (q 10), .int (iZ rm), .ref (q 11), .ref (q 12), .int (iZ hm), .ref (q 13), .ref (q 14), .ref (q 15), .ref (q 16), .int (iZ sb), .int (iZ be), .ref (q 17), .ref (q 18)])), ((q 3), .inl (G.2 0, 60, .inl (iF (zup tx ty k))))]) := by
  refine Ctr.go (own := RX12) (nm := "type") (by decide +kernel) rfl rfl [some (.ref x), some (.int (iZ k))] 0 rfl rfl (Nat.le_of_ble_eq_true rfl) ?_
  intro K h hF
  refine V_iload_n h (dk dd_X12_type_0 0 rfl) rfl get1 ?_
  refine V_bipush h (dk dd_X12_type_0 1 rfl) (by decide) ?_
  refine V_bipush h (dk dd_X12_type_0 2 rfl) (by decide) ?_
  refine V_callS h st3 ci_X12_70 pk_n rfl (m_X12_in l G _ _ _ (by omega) (by omega) (by omega)) rfl rfl (Nat.le_of_ble_eq_true rfl) (by decide) ⟨rfl, rfl, rfl⟩ (dk dd_X12_type_0 3 rfl) sk1 sm_n ?_
  refine V_ifz_ne (tgt := 14) h (dk dd_X12_type_0 4 rfl) rfl (fun c8 => ?_) (fun c8 => ?_)
  · refine V_aload_n h (dk dd_X12_type_0 7 rfl) rfl get0 ?_
    refine V_get h fl_X12_96 0 get0 get4 (dk dd_X12_type_0 8 rfl) ?_
    refine V_bipush h (dk dd_X12_type_0 9 rfl) (by decide) ?_
    refine V_icmp_ne (tgt := 26) h (dk dd_X12_type_0 10 rfl) rfl (by omega) (fun c20 => ?_) (fun c20 => ?_)
    · refine V_aload_n h (dk dd_X12_type_0 13 rfl) rfl get0 ?_
      refine V_get h fl_X12_16 0 get0 get3 (dk dd_X12_type_0 14 rfl) ?_
      refine V_aload_n h (dk dd_X12_type_0 15 rfl) rfl get0 ?_
      refine V_get h fl_X12_96 0 get0 get4 (dk dd_X12_type_0 16 rfl) ?_
      refine V_iload_n h (dk dd_X12_type_0 17 rfl) rfl get1 ?_
      refine V_iast h 1 get1 (by omega) set1 (dk dd_X12_type_0 18 rfl) ?_
      refine V_aload_n h (dk dd_X12_type_0 19 rfl) rfl get0 ?_
      refine V_dup h (dk dd_X12_type_0 20 rfl) rfl ?_
      refine V_get h fl_X12_96 0 get0 get4 (dk dd_X12_type_0 21 rfl) ?_
      refine V_iconst h (dk dd_X12_type_0 22 rfl) ?_
      refine V_iadd h (dk dd_X12_type_0 23 rfl) ?_
      refine V_put h pf_X12_96 0 get0 (Nat.le_of_ble_eq_true rfl) set4 set0 rfl rfl (dk dd_X12_type_0 24 rfl) ?_
      refine V_aload_n h (dk dd_X12_type_0 25 rfl) rfl get0 ?_
      refine V_get h fl_X12_96 0 get0 get4 (dk dd_X12_type_0 26 rfl) ?_
      refine V_iret h hF (dk dd_X12_type_0 27 rfl) ⟨Nat.le_of_ble_eq_true rfl, Nat.le_of_ble_eq_true rfl⟩ ?_
      exact det_i (by first | rfl | omega) rfl
    · exfalso; omega
  · exfalso; omega

set_option maxHeartbeats 4000000 in
set_option maxRecDepth 100000 in
theorem m_X12_clear (l : Launch) (G : GT) (x : Nat) (q : Nat → Nat) (pm ty ap fo wr rm hm sb be : Int)  : Ctr l G yX12_clear cX12_clear 2 (Option.some FieldType.int) (rmO 0 0 0 0) [.ref x] [(x, .inr (11, [.ref (q 1), .ref (q 2), .int (iZ pm), .ref (q 3), .int (iZ ty), .int (iZ ap), .int (iZ fo), .int (iZ wr), .ref (q 4), .ref (q 5), .ref (q 6), .ref (q 7), .ref (q 8), .ref (q 9), .ref (q 10), .int (iZ rm), .ref (q 11), .ref (q 12), .int (iZ hm), .ref (q 13), .ref (q 14), .ref (q 15), .ref (q 16), .int (iZ sb), .int (iZ be), .ref (q 17), .ref (q 18)]))] (Det (some (.int (iZ ty))) [(x, .inr (11, [.ref (q 1), .ref (q 2), .int (iZ pm), .ref (q 3), .int (iZ 0), .int (iZ ap), .int (iZ fo), .int (iZ wr), .ref (q 4), .ref (q 5), .ref (q 6), .ref (q 7), .ref (q 8), .ref (q 9), .ref (q 10), .int (iZ rm), .ref (q 11), .ref (q 12), .int (iZ hm), .ref (q 13), .ref (q 14), .ref (q 15), .ref (q 16), .int (iZ sb), .int (iZ be), .ref (q 17), .ref (q 18)]))]) := by
  refine Ctr.go (own := RX12) (nm := "clear") (by decide +kernel) rfl rfl [some (.ref x), none] 1 rfl rfl (Nat.le_of_ble_eq_true rfl) ?_
  intro K h hF
  refine V_aload_n h (dk dd_X12_clear_0 0 rfl) rfl get0 ?_
  refine V_get h fl_X12_96 0 get0 get4 (dk dd_X12_clear_0 1 rfl) ?_
  refine V_istore_n h (dk dd_X12_clear_0 2 rfl) rfl (Nat.le_of_ble_eq_true rfl) rfl set1 ?_
  refine V_aload_n h (dk dd_X12_clear_0 3 rfl) rfl get0 ?_
  refine V_iconst h (dk dd_X12_clear_0 4 rfl) ?_
  refine V_put h pf_X12_96 0 get0 (Nat.le_of_ble_eq_true rfl) set4 set0 rfl rfl (dk dd_X12_clear_0 5 rfl) ?_
  refine V_iload_n h (dk dd_X12_clear_0 6 rfl) rfl get1 ?_
  refine V_iret h hF (dk dd_X12_clear_0 7 rfl) ⟨Nat.le_of_ble_eq_true rfl, Nat.le_of_ble_eq_true rfl⟩ ?_
  exact det_i (by first | rfl | omega) rfl

set_option maxHeartbeats 4000000 in
set_option maxRecDepth 100000 in
theorem m_mundo_none (l : Launch) (G : GT) (x : Nat) (q : Nat → Nat) (pm ty ap fo wr rm hm sb be : Int) (pp vv : Int → Int) (hp : pm = 0) : Ctr l G yX12_undo cX12_undo 2 (Option.some FieldType.int) (rmO 0 0 0 0) [.ref x] [(x, .inr (11, [.ref (q 1), .ref (q 2), .int (iZ pm), .ref (q 3), .int (iZ ty), .int (iZ ap), .int (iZ fo), .int (iZ wr), .ref (q 4), .ref (q 5), .ref (q 6), .ref (q 7), .ref (q 8), .ref (q 9), .ref (q 10), .int (iZ rm), .ref (q 11), .ref (q 12), .int (iZ hm), .ref (q 13), .ref (q 14), .ref (q 15), .ref (q 16), .int (iZ sb), .int (iZ be), .ref (q 17), .ref (q 18)])), ((q 2), .inl (G.2 0, 300, .inl (iF pp))), ((q 1), .inl (G.2 0, 60, .inl (iF vv)))] (Det (some (.int (iZ (-100009)))) [(x, .inr (11, [.ref (q 1), .ref (q 2), .int (iZ pm), .ref (q 3), .int (iZ ty), .int (iZ ap), .int (iZ fo), .int (iZ wr), .ref (q 4), .ref (q 5), .ref (q 6), .ref (q 7), .ref (q 8), .ref (q 9), .ref (q 10), .int (iZ rm), .ref (q 11), .ref (q 12), .int (iZ hm), .ref (q 13), .ref (q 14), .ref (q 15), .ref (q 16), .int (iZ sb), .int (iZ be), .ref (q 17), .ref (q 18)])), ((q 2), .inl (G.2 0, 300, .inl (iF pp))), ((q 1), .inl (G.2 0, 60, .inl (iF vv)))]) := by
  refine Ctr.go (own := RX12) (nm := "undo") (by decide +kernel) rfl rfl [some (.ref x), none] 1 rfl rfl (Nat.le_of_ble_eq_true rfl) ?_
  intro K h hF
  refine V_aload_n h (dk dd_X12_undo_0 0 rfl) rfl get0 ?_
  refine V_get h fl_X12_66 0 get0 get2 (dk dd_X12_undo_0 1 rfl) ?_
  refine V_if_ne (tgt := 10) h (dk dd_X12_undo_0 2 rfl) rfl (by omega) (fun c4 => ?_) (fun c4 => ?_)
  · exfalso; omega
  · refine V_ldc h q4_230 (dk dd_X12_undo_0 3 rfl) ?_
    refine V_iret h hF (dk dd_X12_undo_0 4 rfl) ⟨Nat.le_of_ble_eq_true rfl, Nat.le_of_ble_eq_true rfl⟩ ?_
    exact det_i (by first | rfl | omega) rfl

set_option maxHeartbeats 4000000 in
set_option maxRecDepth 100000 in
theorem m_mundo_ok (l : Launch) (G : GT) (x : Nat) (q : Nat → Nat) (pm ty ap fo wr rm hm sb be : Int) (pp vv : Int → Int) (hp : 1 ≤ pm ∧ pm ≤ 5) : Ctr l G yX12_undo cX12_undo 2 (Option.some FieldType.int) (rmO 0 0 0 0) [.ref x] [(x, .inr (11, [.ref (q 1), .ref (q 2), .int (iZ pm), .ref (q 3), .int (iZ ty), .int (iZ ap), .int (iZ fo), .int (iZ wr), .ref (q 4), .ref (q 5), .ref (q 6), .ref (q 7), .ref (q 8), .ref (q 9), .ref (q 10), .int (iZ rm), .ref (q 11), .ref (q 12), .int (iZ hm), .ref (q 13), .ref (q 14), .ref (q 15), .ref (q 16), .int (iZ sb), .int (iZ be), .ref (q 17), .ref (q 18)])), ((q 2), .inl (G.2 0, 300, .inl (iF pp))), ((q 1), .inl (G.2 0, 60, .inl (iF vv)))] (Det (some (.int (iZ (pm - 1)))) [(x, .inr (11, [.ref (q 1), .ref (q 2), .int (iZ (pm - 1)), .ref (q 3), .int (iZ ty), .int (iZ ap), .int (iZ fo), .int (iZ wr), .ref (q 4), .ref (q 5), .ref (q 6), .ref (q 7), .ref (q 8), .ref (q 9), .ref (q 10), .int (iZ rm), .ref (q 11), .ref (q 12), .int (iZ hm), .ref (q 13), .ref (q 14), .ref (q 15), .ref (q 16), .int (iZ sb), .int (iZ be), .ref (q 17), .ref (q 18)])), ((q 2), .inl (G.2 0, 300, .inl (iF pp))), ((q 1), .inl (G.2 0, 60, .inl (iF (undF vv pp pm))))]) := by
  refine Ctr.go (own := RX12) (nm := "undo") (by decide +kernel) rfl rfl [some (.ref x), none] 1 rfl rfl (Nat.le_of_ble_eq_true rfl) ?_
  intro K h hF
  refine V_aload_n h (dk dd_X12_undo_0 0 rfl) rfl get0 ?_
  refine V_get h fl_X12_66 0 get0 get2 (dk dd_X12_undo_0 1 rfl) ?_
  refine V_if_ne (tgt := 10) h (dk dd_X12_undo_0 2 rfl) rfl (by omega) (fun c4 => ?_) (fun c4 => ?_)
  · refine V_aload_n h (dk dd_X12_undo_0 5 rfl) rfl get0 ?_
    refine V_dup h (dk dd_X12_undo_0 6 rfl) rfl ?_
    refine V_get h fl_X12_66 0 get0 get2 (dk dd_X12_undo_0 7 rfl) ?_
    refine V_iconst h (dk dd_X12_undo_0 8 rfl) ?_
    refine V_isub h (dk dd_X12_undo_0 9 rfl) ?_
    refine V_put h pf_X12_66 0 get0 (Nat.le_of_ble_eq_true rfl) set2 set0 rfl rfl (dk dd_X12_undo_0 10 rfl) ?_
    refine V_iconst h (dk dd_X12_undo_0 11 rfl) ?_
    refine V_istore_n h (dk dd_X12_undo_0 12 rfl) rfl (Nat.le_of_ble_eq_true rfl) rfl set1 ?_
    have L22 : ∀ (fu : Nat) (i : Int), 0 ≤ i ∧ i ≤ 60 → (60 - i).toNat < fu → V K (0, 0) 22 [some (.ref x), some (.int (iZ i))] [] [(x, .inr (11, [.ref (q 1), .ref (q 2), .int (iZ (pm - 1)), .ref (q 3), .int (iZ ty), .int (iZ ap), .int (iZ fo), .int (iZ wr), .ref (q 4), .ref (q 5), .ref (q 6), .ref (q 7), .ref (q 8), .ref (q 9), .ref (q 10), .int (iZ rm), .ref (q 11), .ref (q 12), .int (iZ hm), .ref (q 13), .ref (q 14), .ref (q 15), .ref (q 16), .int (iZ sb), .int (iZ be), .ref (q 17), .ref (q 18)])), ((q 2), .inl (G.2 0, 300, .inl (iF pp))), ((q 1), .inl (G.2 0, 60, .inl (iF (cpyF pp vv (60 * (pm - 1)) 0 i))))] := by
      intro fu
      induction fu with
      | zero => intro i _ hm; exact absurd hm (Nat.not_lt_zero _)
      | succ fu ih22 =>
        intro i hI22 hm22
        refine V_iload_n h (dk dd_X12_undo_0 13 rfl) rfl get1 ?_
        refine V_bipush h (dk dd_X12_undo_0 14 rfl) (by decide) ?_
        refine V_icmp_ge (tgt := 54) h (dk dd_X12_undo_0 15 rfl) rfl (by omega) (fun c25 => ?_) (fun c25 => ?_)
        · have e : i = 60 := by omega
          subst e
          refine V_aload_n h (dk dd_X12_undo_0 31 rfl) rfl get0 ?_
          refine V_get h fl_X12_66 0 get0 get2 (dk dd_X12_undo_0 32 rfl) ?_
          refine V_iret h hF (dk dd_X12_undo_0 33 rfl) ⟨Nat.le_of_ble_eq_true rfl, Nat.le_of_ble_eq_true rfl⟩ ?_
          exact det_i (by first | rfl | omega) rfl
        · refine V_aload_n h (dk dd_X12_undo_0 16 rfl) rfl get0 ?_
          refine V_get h fl_X12_7 0 get0 get0 (dk dd_X12_undo_0 17 rfl) ?_
          refine V_iload_n h (dk dd_X12_undo_0 18 rfl) rfl get1 ?_
          refine V_aload_n h (dk dd_X12_undo_0 19 rfl) rfl get0 ?_
          refine V_get h fl_X12_13 0 get0 get1 (dk dd_X12_undo_0 20 rfl) ?_
          refine V_bipush h (dk dd_X12_undo_0 21 rfl) (by decide) ?_
          refine V_aload_n h (dk dd_X12_undo_0 22 rfl) rfl get0 ?_
          refine V_get h fl_X12_66 0 get0 get2 (dk dd_X12_undo_0 23 rfl) ?_
          refine V_imul h (dk dd_X12_undo_0 24 rfl) ?_
          refine V_iload_n h (dk dd_X12_undo_0 25 rfl) rfl get1 ?_
          refine V_iadd h (dk dd_X12_undo_0 26 rfl) ?_
          refine V_iald h 1 get1 (by omega) (dk dd_X12_undo_0 27 rfl) ?_
          refine V_iast h 2 get2 (by omega) set2 (dk dd_X12_undo_0 28 rfl) ?_
          have e1 := cpy_s (f := pp) (g := vv) (s := 60 * (pm - 1)) (d := 0) hI22.1
          rw [Int.zero_add] at e1
          rw [e1]
          refine V_iinc h (dk dd_X12_undo_0 29 rfl) get1 (Nat.le_of_ble_eq_true rfl) rfl set1 ?_
          refine V_goto (tgt := 22) h (dk dd_X12_undo_0 30 rfl) rfl ?_
          exact ih22 _ (by omega) (by omega)
    have e0 := L22 _ 0 (by omega) (Nat.lt_succ_self _)
    rw [cpy_n] at e0
    exact e0
  · exfalso; omega

