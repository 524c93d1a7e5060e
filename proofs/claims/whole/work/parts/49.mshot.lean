/-! the reference: its shot -/
set_option maxHeartbeats 4000000 in
set_option maxRecDepth 100000 in
theorem m_X12_tilted (l : Launch) (G : GT) (s k : Int) (hs : s ≠ 0 ∧ -13859 ≤ s ∧ s ≤ 13859) (hk : -9999 ≤ k ∧ k ≤ 9999) : Ctr l G yX12_tilted cX12_tilted 3 (Option.some FieldType.int) (rmO 2 0 0 42) [.int (iZ s), .int (iZ k)] [] (Det (some (.int (iZ (tiltF s k)))) []) := by
  refine Ctr.go (own := RX12) (nm := "tilted") (by decide +kernel) rfl rfl [some (.int (iZ s)), some (.int (iZ k)), none] 1 rfl rfl (Nat.le_of_ble_eq_true rfl) ?_
  intro K h hF
  refine V_iload_n h (dk dd_X12_tilted_0 0 rfl) rfl get0 ?_
  refine V_if_le (tgt := 10) h (dk dd_X12_tilted_0 1 rfl) rfl (by omega) (fun c1 => ?_) (fun c1 => ?_)
  · refine V_iload_n h (dk dd_X12_tilted_0 6 rfl) rfl get0 ?_
    refine V_iload_n h (dk dd_X12_tilted_0 7 rfl) rfl get1 ?_
    refine V_isub h (dk dd_X12_tilted_0 8 rfl) ?_
    refine V_istore_n h (dk dd_X12_tilted_0 9 rfl) rfl (Nat.le_of_ble_eq_true rfl) rfl set2 ?_
    refine V_iload_n h (dk dd_X12_tilted_0 10 rfl) rfl get2 ?_
    refine V_callS h st1 ci_X12_147 pk_n rfl (m_X12_isStep l G _ (by omega)) rfl rfl (Nat.le_of_ble_eq_true rfl) (by decide) ⟨rfl, rfl, rfl⟩ (dk dd_X12_tilted_0 11 rfl) sk1 sm_n ?_
    refine V_ifz_eq (tgt := 46) h (dk dd_X12_tilted_0 12 rfl) rfl (fun c18 => ?_) (fun c18 => ?_)
    · refine V_iconst h (dk dd_X12_tilted_0 26 rfl) ?_
      refine V_iret h hF (dk dd_X12_tilted_0 27 rfl) ⟨Nat.le_of_ble_eq_true rfl, Nat.le_of_ble_eq_true rfl⟩ ?_
      exact det_i (by unfold tiltF; split <;> (try split) <;> omega) rfl
    · refine V_iload_n h (dk dd_X12_tilted_0 13 rfl) rfl get2 ?_
      refine V_if_le (tgt := 29) h (dk dd_X12_tilted_0 14 rfl) rfl (by omega) (fun c22 => ?_) (fun c22 => ?_)
      · refine V_iconst h (dk dd_X12_tilted_0 17 rfl) ?_
        refine V_iload_n h (dk dd_X12_tilted_0 18 rfl) rfl get0 ?_
        refine V_if_le (tgt := 38) h (dk dd_X12_tilted_0 19 rfl) rfl (by omega) (fun c31 => ?_) (fun c31 => ?_)
        · refine V_iconst h (dk dd_X12_tilted_0 22 rfl) ?_
          refine V_icmp_ne (tgt := 46) h (dk dd_X12_tilted_0 23 rfl) rfl (by omega) (fun c39 => ?_) (fun c39 => ?_)
          · refine V_iconst h (dk dd_X12_tilted_0 26 rfl) ?_
            refine V_iret h hF (dk dd_X12_tilted_0 27 rfl) ⟨Nat.le_of_ble_eq_true rfl, Nat.le_of_ble_eq_true rfl⟩ ?_
            exact det_i (by unfold tiltF; split <;> (try split) <;> omega) rfl
          · refine V_iload_n h (dk dd_X12_tilted_0 24 rfl) rfl get2 ?_
            refine V_goto (tgt := 47) h (dk dd_X12_tilted_0 25 rfl) rfl ?_
            refine V_iret h hF (dk dd_X12_tilted_0 27 rfl) ⟨Nat.le_of_ble_eq_true rfl, Nat.le_of_ble_eq_true rfl⟩ ?_
            exact det_i (by unfold tiltF; split <;> (try split) <;> omega) rfl
        · refine V_iconst h (dk dd_X12_tilted_0 20 rfl) ?_
          refine V_goto (tgt := 39) h (dk dd_X12_tilted_0 21 rfl) rfl ?_
          refine V_icmp_ne (tgt := 46) h (dk dd_X12_tilted_0 23 rfl) rfl (by omega) (fun c39_2 => ?_) (fun c39_2 => ?_)
          · refine V_iconst h (dk dd_X12_tilted_0 26 rfl) ?_
            refine V_iret h hF (dk dd_X12_tilted_0 27 rfl) ⟨Nat.le_of_ble_eq_true rfl, Nat.le_of_ble_eq_true rfl⟩ ?_
            exact det_i (by unfold tiltF; split <;> (try split) <;> omega) rfl
          · refine V_iload_n h (dk dd_X12_tilted_0 24 rfl) rfl get2 ?_
            refine V_goto (tgt := 47) h (dk dd_X12_tilted_0 25 rfl) rfl ?_
            refine V_iret h hF (dk dd_X12_tilted_0 27 rfl) ⟨Nat.le_of_ble_eq_true rfl, Nat.le_of_ble_eq_true rfl⟩ ?_
            exact det_i (by unfold tiltF; split <;> (try split) <;> omega) rfl
      · refine V_iconst h (dk dd_X12_tilted_0 15 rfl) ?_
        refine V_goto (tgt := 30) h (dk dd_X12_tilted_0 16 rfl) rfl ?_
        refine V_iload_n h (dk dd_X12_tilted_0 18 rfl) rfl get0 ?_
        refine V_if_le (tgt := 38) h (dk dd_X12_tilted_0 19 rfl) rfl (by omega) (fun c31_2 => ?_) (fun c31_2 => ?_)
        · refine V_iconst h (dk dd_X12_tilted_0 22 rfl) ?_
          refine V_icmp_ne (tgt := 46) h (dk dd_X12_tilted_0 23 rfl) rfl (by omega) (fun c39_3 => ?_) (fun c39_3 => ?_)
          · refine V_iconst h (dk dd_X12_tilted_0 26 rfl) ?_
            refine V_iret h hF (dk dd_X12_tilted_0 27 rfl) ⟨Nat.le_of_ble_eq_true rfl, Nat.le_of_ble_eq_true rfl⟩ ?_
            exact det_i (by unfold tiltF; split <;> (try split) <;> omega) rfl
          · refine V_iload_n h (dk dd_X12_tilted_0 24 rfl) rfl get2 ?_
            refine V_goto (tgt := 47) h (dk dd_X12_tilted_0 25 rfl) rfl ?_
            refine V_iret h hF (dk dd_X12_tilted_0 27 rfl) ⟨Nat.le_of_ble_eq_true rfl, Nat.le_of_ble_eq_true rfl⟩ ?_
            exact det_i (by unfold tiltF; split <;> (try split) <;> omega) rfl
        · refine V_iconst h (dk dd_X12_tilted_0 20 rfl) ?_
          refine V_goto (tgt := 39) h (dk dd_X12_tilted_0 21 rfl) rfl ?_
          refine V_icmp_ne (tgt := 46) h (dk dd_X12_tilted_0 23 rfl) rfl (by omega) (fun c39_4 => ?_) (fun c39_4 => ?_)
          · refine V_iconst h (dk dd_X12_tilted_0 26 rfl) ?_
            refine V_iret h hF (dk dd_X12_tilted_0 27 rfl) ⟨Nat.le_of_ble_eq_true rfl, Nat.le_of_ble_eq_true rfl⟩ ?_
            exact det_i (by unfold tiltF; split <;> (try split) <;> omega) rfl
          · refine V_iload_n h (dk dd_X12_tilted_0 24 rfl) rfl get2 ?_
            refine V_goto (tgt := 47) h (dk dd_X12_tilted_0 25 rfl) rfl ?_
            refine V_iret h hF (dk dd_X12_tilted_0 27 rfl) ⟨Nat.le_of_ble_eq_true rfl, Nat.le_of_ble_eq_true rfl⟩ ?_
            exact det_i (by unfold tiltF; split <;> (try split) <;> omega) rfl
  · refine V_iload_n h (dk dd_X12_tilted_0 2 rfl) rfl get0 ?_
    refine V_iload_n h (dk dd_X12_tilted_0 3 rfl) rfl get1 ?_
    refine V_iadd h (dk dd_X12_tilted_0 4 rfl) ?_
    refine V_goto (tgt := 13) h (dk dd_X12_tilted_0 5 rfl) rfl ?_
    refine V_istore_n h (dk dd_X12_tilted_0 9 rfl) rfl (Nat.le_of_ble_eq_true rfl) rfl set2 ?_
    refine V_iload_n h (dk dd_X12_tilted_0 10 rfl) rfl get2 ?_
    refine V_callS h st1 ci_X12_147 pk_n rfl (m_X12_isStep l G _ (by omega)) rfl rfl (Nat.le_of_ble_eq_true rfl) (by decide) ⟨rfl, rfl, rfl⟩ (dk dd_X12_tilted_0 11 rfl) sk1 sm_n ?_
    refine V_ifz_eq (tgt := 46) h (dk dd_X12_tilted_0 12 rfl) rfl (fun c18_2 => ?_) (fun c18_2 => ?_)
    · refine V_iconst h (dk dd_X12_tilted_0 26 rfl) ?_
      refine V_iret h hF (dk dd_X12_tilted_0 27 rfl) ⟨Nat.le_of_ble_eq_true rfl, Nat.le_of_ble_eq_true rfl⟩ ?_
      exact det_i (by unfold tiltF; split <;> (try split) <;> omega) rfl
    · refine V_iload_n h (dk dd_X12_tilted_0 13 rfl) rfl get2 ?_
      refine V_if_le (tgt := 29) h (dk dd_X12_tilted_0 14 rfl) rfl (by omega) (fun c22_2 => ?_) (fun c22_2 => ?_)
      · refine V_iconst h (dk dd_X12_tilted_0 17 rfl) ?_
        refine V_iload_n h (dk dd_X12_tilted_0 18 rfl) rfl get0 ?_
        refine V_if_le (tgt := 38) h (dk dd_X12_tilted_0 19 rfl) rfl (by omega) (fun c31_3 => ?_) (fun c31_3 => ?_)
        · refine V_iconst h (dk dd_X12_tilted_0 22 rfl) ?_
          refine V_icmp_ne (tgt := 46) h (dk dd_X12_tilted_0 23 rfl) rfl (by omega) (fun c39_5 => ?_) (fun c39_5 => ?_)
          · refine V_iconst h (dk dd_X12_tilted_0 26 rfl) ?_
            refine V_iret h hF (dk dd_X12_tilted_0 27 rfl) ⟨Nat.le_of_ble_eq_true rfl, Nat.le_of_ble_eq_true rfl⟩ ?_
            exact det_i (by unfold tiltF; split <;> (try split) <;> omega) rfl
          · refine V_iload_n h (dk dd_X12_tilted_0 24 rfl) rfl get2 ?_
            refine V_goto (tgt := 47) h (dk dd_X12_tilted_0 25 rfl) rfl ?_
            refine V_iret h hF (dk dd_X12_tilted_0 27 rfl) ⟨Nat.le_of_ble_eq_true rfl, Nat.le_of_ble_eq_true rfl⟩ ?_
            exact det_i (by unfold tiltF; split <;> (try split) <;> omega) rfl
        · refine V_iconst h (dk dd_X12_tilted_0 20 rfl) ?_
          refine V_goto (tgt := 39) h (dk dd_X12_tilted_0 21 rfl) rfl ?_
          refine V_icmp_ne (tgt := 46) h (dk dd_X12_tilted_0 23 rfl) rfl (by omega) (fun c39_6 => ?_) (fun c39_6 => ?_)
          · refine V_iconst h (dk dd_X12_tilted_0 26 rfl) ?_
            refine V_iret h hF (dk dd_X12_tilted_0 27 rfl) ⟨Nat.le_of_ble_eq_true rfl, Nat.le_of_ble_eq_true rfl⟩ ?_
            exact det_i (by unfold tiltF; split <;> (try split) <;> omega) rfl
          · refine V_iload_n h (dk dd_X12_tilted_0 24 rfl) rfl get2 ?_
            refine V_goto (tgt := 47) h (dk dd_X12_tilted_0 25 rfl) rfl ?_
            refine V_iret h hF (dk dd_X12_tilted_0 27 rfl) ⟨Nat.le_of_ble_eq_true rfl, Nat.le_of_ble_eq_true rfl⟩ ?_
            exact det_i (by unfold tiltF; split <;> (try split) <;> omega) rfl
      · refine V_iconst h (dk dd_X12_tilted_0 15 rfl) ?_
        refine V_goto (tgt := 30) h (dk dd_X12_tilted_0 16 rfl) rfl ?_
        refine V_iload_n h (dk dd_X12_tilted_0 18 rfl) rfl get0 ?_
        refine V_if_le (tgt := 38) h (dk dd_X12_tilted_0 19 rfl) rfl (by omega) (fun c31_4 => ?_) (fun c31_4 => ?_)
        · refine V_iconst h (dk dd_X12_tilted_0 22 rfl) ?_
          refine V_icmp_ne (tgt := 46) h (dk dd_X12_tilted_0 23 rfl) rfl (by omega) (fun c39_7 => ?_) (fun c39_7 => ?_)
          · refine V_iconst h (dk dd_X12_tilted_0 26 rfl) ?_
            refine V_iret h hF (dk dd_X12_tilted_0 27 rfl) ⟨Nat.le_of_ble_eq_true rfl, Nat.le_of_ble_eq_true rfl⟩ ?_
            exact det_i (by unfold tiltF; split <;> (try split) <;> omega) rfl
          · refine V_iload_n h (dk dd_X12_tilted_0 24 rfl) rfl get2 ?_
            refine V_goto (tgt := 47) h (dk dd_X12_tilted_0 25 rfl) rfl ?_
            refine V_iret h hF (dk dd_X12_tilted_0 27 rfl) ⟨Nat.le_of_ble_eq_true rfl, Nat.le_of_ble_eq_true rfl⟩ ?_
            exact det_i (by unfold tiltF; split <;> (try split) <;> omega) rfl
        · refine V_iconst h (dk dd_X12_tilted_0 20 rfl) ?_
          refine V_goto (tgt := 39) h (dk dd_X12_tilted_0 21 rfl) rfl ?_
          refine V_icmp_ne (tgt := 46) h (dk dd_X12_tilted_0 23 rfl) rfl (by omega) (fun c39_8 => ?_) (fun c39_8 => ?_)
          · refine V_iconst h (dk dd_X12_tilted_0 26 rfl) ?_
            refine V_iret h hF (dk dd_X12_tilted_0 27 rfl) ⟨Nat.le_of_ble_eq_true rfl, Nat.le_of_ble_eq_true rfl⟩ ?_
            exact det_i (by unfold tiltF; split <;> (try split) <;> omega) rfl
          · refine V_iload_n h (dk dd_X12_tilted_0 24 rfl) rfl get2 ?_
            refine V_goto (tgt := 47) h (dk dd_X12_tilted_0 25 rfl) rfl ?_
            refine V_iret h hF (dk dd_X12_tilted_0 27 rfl) ⟨Nat.le_of_ble_eq_true rfl, Nat.le_of_ble_eq_true rfl⟩ ?_
            exact det_i (by unfold tiltF; split <;> (try split) <;> omega) rfl

set_option maxHeartbeats 4000000 in
set_option maxRecDepth 100000 in
theorem m_X12_begins (l : Launch) (G : GT) (x : Nat) (q : Nat → Nat) (pm ty ap fo wr rm hm sb be : Int) (P T E S U : Int → Int) (p t s e : Int) (hrm : 0 ≤ rm ∧ rm < 100) : Ctr l G yX12_begins cX12_begins 6 none (rmO 0 0 0 0) [.ref x, .int (iZ p), .long (lZ t), .int (iZ s), .int (iZ e)] [(x, .inr (11, [.ref (q 1), .ref (q 2), .int (iZ pm), .ref (q 3), .int (iZ ty), .int (iZ ap), .int (iZ fo), .int (iZ wr), .ref (q 4), .ref (q 5), .ref (q 6), .ref (q 7), .ref (q 8), .ref (q 9), .ref (q 10), .int (iZ rm), .ref (q 11), .ref (q 12), .int (iZ hm), .ref (q 13), .ref (q 14), .ref (q 15), .ref (q 16), .int (iZ sb), .int (iZ be), .ref (q 17), .ref (q 18)])), ((q 6), .inl (G.2 0, 100, .inl (iF P))), ((q 7), .inl (G.2 1, 100, .inr (.inl (lF T)))), ((q 8), .inl (G.2 0, 100, .inl (iF E))), ((q 9), .inl (G.2 0, 100, .inl (iF S))), ((q 10), .inl (G.2 2, 100, .inl (iF U)))] (Det none [(x, .inr (11, [.ref (q 1), .ref (q 2), .int (iZ pm), .ref (q 3), .int (iZ ty), .int (iZ ap), .int (iZ fo), .int (iZ wr), .ref (q 4), .ref (q 5), .ref (q 6), .ref (q 7), .ref (q 8), .ref (q 9), .ref (q 10), .int (iZ (rm + 1)), .ref (q 11), .ref (q 12), .int (iZ hm), .ref (q 13), .ref (q 14), .ref (q 15), .ref (q 16), .int (iZ sb), .int (iZ be), .ref (q 17), .ref (q 18)])), ((q 6), .inl (G.2 0, 100, .inl (iF (zup P rm p)))), ((q 7), .inl (G.2 1, 100, .inr (.inl (lF (zup T rm t))))), ((q 8), .inl (G.2 0, 100, .inl (iF (zup E rm e)))), ((q 9), .inl (G.2 0, 100, .inl (iF (zup S rm s)))), ((q 10), .inl (G.2 2, 100, .inl (iF (zup U rm 1))))]) := by
  refine Ctr.go (own := RX12) (nm := "begins") (by decide +kernel) rfl rfl [some (.ref x), some (.int (iZ p)), some (.long (lZ t)), none, some (.int (iZ s)), some (.int (iZ e))] 0 rfl rfl (Nat.le_of_ble_eq_true rfl) ?_
  intro K h hF
  refine V_aload_n h (dk dd_X12_begins_0 0 rfl) rfl get0 ?_
  refine V_get h fl_X12_25 0 get0 get10 (dk dd_X12_begins_0 1 rfl) ?_
  refine V_aload_n h (dk dd_X12_begins_0 2 rfl) rfl get0 ?_
  refine V_get h fl_X12_169 0 get0 get15 (dk dd_X12_begins_0 3 rfl) ?_
  refine V_iload_n h (dk dd_X12_begins_0 4 rfl) rfl get1 ?_
  refine V_iast h 1 get1 (by omega) set1 (dk dd_X12_begins_0 5 rfl) ?_
  refine V_aload_n h (dk dd_X12_begins_0 6 rfl) rfl get0 ?_
  refine V_get h fl_X12_28 0 get0 get11 (dk dd_X12_begins_0 7 rfl) ?_
  refine V_aload_n h (dk dd_X12_begins_0 8 rfl) rfl get0 ?_
  refine V_get h fl_X12_169 0 get0 get15 (dk dd_X12_begins_0 9 rfl) ?_
  refine V_lload_n h (dk dd_X12_begins_0 10 rfl) rfl get2 ?_
  refine V_last h 2 get2 (by omega) set2 (dk dd_X12_begins_0 11 rfl) ?_
  refine V_aload_n h (dk dd_X12_begins_0 12 rfl) rfl get0 ?_
  refine V_get h fl_X12_35 0 get0 get13 (dk dd_X12_begins_0 13 rfl) ?_
  refine V_aload_n h (dk dd_X12_begins_0 14 rfl) rfl get0 ?_
  refine V_get h fl_X12_169 0 get0 get15 (dk dd_X12_begins_0 15 rfl) ?_
  refine V_iload h (dk dd_X12_begins_0 16 rfl) get4 ?_
  refine V_iast h 4 get4 (by omega) set4 (dk dd_X12_begins_0 17 rfl) ?_
  refine V_aload_n h (dk dd_X12_begins_0 18 rfl) rfl get0 ?_
  refine V_get h fl_X12_32 0 get0 get12 (dk dd_X12_begins_0 19 rfl) ?_
  refine V_aload_n h (dk dd_X12_begins_0 20 rfl) rfl get0 ?_
  refine V_get h fl_X12_169 0 get0 get15 (dk dd_X12_begins_0 21 rfl) ?_
  refine V_iload h (dk dd_X12_begins_0 22 rfl) get5 ?_
  refine V_iast h 3 get3 (by omega) set3 (dk dd_X12_begins_0 23 rfl) ?_
  refine V_aload_n h (dk dd_X12_begins_0 24 rfl) rfl get0 ?_
  refine V_get h fl_X12_38 0 get0 get14 (dk dd_X12_begins_0 25 rfl) ?_
  refine V_aload_n h (dk dd_X12_begins_0 26 rfl) rfl get0 ?_
  refine V_get h fl_X12_169 0 get0 get15 (dk dd_X12_begins_0 27 rfl) ?_
  refine V_iconst h (dk dd_X12_begins_0 28 rfl) ?_
  refine V_zast h 5 get5 (by omega) (by decide) set5 (dk dd_X12_begins_0 29 rfl) ?_
  refine V_aload_n h (dk dd_X12_begins_0 30 rfl) rfl get0 ?_
  refine V_dup h (dk dd_X12_begins_0 31 rfl) rfl ?_
  refine V_get h fl_X12_169 0 get0 get15 (dk dd_X12_begins_0 32 rfl) ?_
  refine V_iconst h (dk dd_X12_begins_0 33 rfl) ?_
  refine V_iadd h (dk dd_X12_begins_0 34 rfl) ?_
  refine V_put h pf_X12_169 0 get0 (Nat.le_of_ble_eq_true rfl) set15 set0 rfl rfl (dk dd_X12_begins_0 35 rfl) ?_
  refine V_vret h hF (dk dd_X12_begins_0 36 rfl) ⟨Nat.le_of_ble_eq_true rfl, Nat.le_of_ble_eq_true rfl⟩ ?_
  exact det_v rfl

set_option maxHeartbeats 4000000 in
set_option maxRecDepth 100000 in
theorem m_X12_next (l : Launch) (G : GT) (x : Nat) (q : Nat → Nat) (pm ty ap fo wr rm hm sb be : Int) (T S U : Int → Int) (hrm : 0 ≤ rm ∧ rm ≤ 100) (hS : ∀ j, 0 ≤ j → j < rm → -13859 ≤ S j ∧ S j ≤ 13859) (hT : ∀ j, 0 ≤ j → j < rm → 0 ≤ T j ∧ T j ≤ 2000000000) (hU : ∀ j, 0 ≤ j → j < rm → Z01 (U j)) : Ctr l G yX12_next cX12_next 7 (Option.some FieldType.int) (rmO 2 0 0 45) [.ref x] [(x, .inr (11, [.ref (q 1), .ref (q 2), .int (iZ pm), .ref (q 3), .int (iZ ty), .int (iZ ap), .int (iZ fo), .int (iZ wr), .ref (q 4), .ref (q 5), .ref (q 6), .ref (q 7), .ref (q 8), .ref (q 9), .ref (q 10), .int (iZ rm), .ref (q 11), .ref (q 12), .int (iZ hm), .ref (q 13), .ref (q 14), .ref (q 15), .ref (q 16), .int (iZ sb), .int (iZ be), .ref (q 17), .ref (q 18)])), ((q 7), .inl (G.2 1, 100, .inr (.inl (lF T)))), ((q 9), .inl (G.2 0, 100, .inl (iF S))), ((q 10), .inl (G.2 2, 100, .inl (iF U)))] (Det (some (.int (iZ (nvM (erlF (tcF T S) U rm.toNat))))) [(x, .inr (11, [.ref (q 1), .ref (q 2), .int (iZ pm), .ref (q 3), .int (iZ ty), .int (iZ ap), .int (iZ fo), .int (iZ wr), .ref (q 4), .ref (q 5), .ref (q 6), .ref (q 7), .ref (q 8), .ref (q 9), .ref (q 10), .int (iZ rm), .ref (q 11), .ref (q 12), .int (iZ hm), .ref (q 13), .ref (q 14), .ref (q 15), .ref (q 16), .int (iZ sb), .int (iZ be), .ref (q 17), .ref (q 18)])), ((q 7), .inl (G.2 1, 100, .inr (.inl (lF T)))), ((q 9), .inl (G.2 0, 100, .inl (iF S))), ((q 10), .inl (G.2 2, 100, .inl (iF U)))]) := by
  refine Ctr.go (own := RX12) (nm := "next") (by decide +kernel) rfl rfl [some (.ref x), none, none, none, none, none, none] 6 rfl rfl (Nat.le_of_ble_eq_true rfl) ?_
  intro K h hF
  refine V_ldc h q4_230 (dk dd_X12_next_0 0 rfl) ?_
  refine V_istore_n h (dk dd_X12_next_0 1 rfl) rfl (Nat.le_of_ble_eq_true rfl) rfl set1 ?_
  refine V_lconst0 h (dk dd_X12_next_0 2 rfl) ?_
  refine V_lstore_n h (dk dd_X12_next_0 3 rfl) rfl (Nat.le_of_ble_eq_true rfl) rfl set2 set3 ?_
  refine V_iconst h (dk dd_X12_next_0 4 rfl) ?_
  refine V_istore h (dk dd_X12_next_0 5 rfl) (Nat.le_of_ble_eq_true rfl) rfl set4 ?_
  have L8 : ∀ (fu : Nat) (i b t : Int), 0 ≤ i ∧ i ≤ rm ∧ b = nvM (erlF (tcF T S) U i.toNat) ∧ (0 ≤ b → t = tcF T S b) → (rm - i).toNat < fu → V K (0, 0) 8 [some (.ref x), some (.int (iZ b)), some (.long (lZ t)), none, some (.int (iZ i)), none, none] [] [(x, .inr (11, [.ref (q 1), .ref (q 2), .int (iZ pm), .ref (q 3), .int (iZ ty), .int (iZ ap), .int (iZ fo), .int (iZ wr), .ref (q 4), .ref (q 5), .ref (q 6), .ref (q 7), .ref (q 8), .ref (q 9), .ref (q 10), .int (iZ rm), .ref (q 11), .ref (q 12), .int (iZ hm), .ref (q 13), .ref (q 14), .ref (q 15), .ref (q 16), .int (iZ sb), .int (iZ be), .ref (q 17), .ref (q 18)])), ((q 7), .inl (G.2 1, 100, .inr (.inl (lF T)))), ((q 9), .inl (G.2 0, 100, .inl (iF S))), ((q 10), .inl (G.2 2, 100, .inl (iF U)))] := by
    intro fu
    induction fu with
    | zero => intro i b t _ hm; exact absurd hm (Nat.not_lt_zero _)
    | succ fu ih8 =>
      intro i b t hI8 hm8
      obtain ⟨hi0, hi1, hb, ht⟩ := hI8
      have hR := erl_R (tcF T S) U i.toNat
      have hb2 : (b = -100009 ∧ erlF (tcF T S) U i.toNat = -1) ∨ (0 ≤ b ∧ b < i ∧ b = erlF (tcF T S) U i.toNat) := by rw [hb]; unfold nvM; split <;> omega
      refine V_iload h (dk dd_X12_next_0 6 rfl) get4 ?_
      refine V_aload_n h (dk dd_X12_next_0 7 rfl) rfl get0 ?_
      refine V_get h fl_X12_169 0 get0 get15 (dk dd_X12_next_0 8 rfl) ?_
      refine V_icmp_ge (tgt := 71) h (dk dd_X12_next_0 9 rfl) rfl (by omega) (fun c14 => ?_) (fun c14 => ?_)
      · refine V_iload_n h (dk dd_X12_next_0 39 rfl) rfl get1 ?_
        refine V_iret h hF (dk dd_X12_next_0 40 rfl) ⟨Nat.le_of_ble_eq_true rfl, Nat.le_of_ble_eq_true rfl⟩ ?_
        have e : i = rm := by omega
        subst e
        exact det_i hb rfl
      · have hSi := hS i hi0 (by omega)
        have hTi := hT i hi0 (by omega)
        have hch := chord_R hSi
        refine V_aload_n h (dk dd_X12_next_0 10 rfl) rfl get0 ?_
        refine V_get h fl_X12_28 0 get0 get11 (dk dd_X12_next_0 11 rfl) ?_
        refine V_iload h (dk dd_X12_next_0 12 rfl) get4 ?_
        refine V_lald h 1 get1 (by omega) (dk dd_X12_next_0 13 rfl) ?_
        refine V_aload_n h (dk dd_X12_next_0 14 rfl) rfl get0 ?_
        refine V_get h fl_X12_35 0 get0 get13 (dk dd_X12_next_0 15 rfl) ?_
        refine V_iload h (dk dd_X12_next_0 16 rfl) get4 ?_
        refine V_iald h 2 get2 (by omega) (dk dd_X12_next_0 17 rfl) ?_
        refine V_callS h st1 ci_X12_150 pk_n rfl (m_X12_chord l G _ (by omega)) rfl rfl (Nat.le_of_ble_eq_true rfl) (by decide) ⟨rfl, rfl, rfl⟩ (dk dd_X12_next_0 18 rfl) sk1 sm_n ?_
        refine V_i2l h (dk dd_X12_next_0 19 rfl) (by omega) ?_
        refine V_ladd h (dk dd_X12_next_0 20 rfl) ?_
        rw [show T i + chordF (S i) = tcF T S i from rfl]
        have hti : 0 ≤ tcF T S i ∧ tcF T S i ≤ 2002000000 := by unfold tcF; omega
        refine V_lstore h (dk dd_X12_next_0 21 rfl) (Nat.le_of_ble_eq_true rfl) rfl set5 set6 ?_
        refine V_aload_n h (dk dd_X12_next_0 22 rfl) rfl get0 ?_
        refine V_get h fl_X12_38 0 get0 get14 (dk dd_X12_next_0 23 rfl) ?_
        refine V_iload h (dk dd_X12_next_0 24 rfl) get4 ?_
        refine V_zald h 3 get3 (by omega) (dk dd_X12_next_0 25 rfl) ?_
        refine V_if_eq (tgt := 65) h (dk dd_X12_next_0 26 rfl) rfl ((hU i hi0 (by omega)).R) (fun c45 => ?_) (fun c45 => ?_)
        · refine V_iinc h (dk dd_X12_next_0 37 rfl) get4 (Nat.le_of_ble_eq_true rfl) rfl set4 ?_
          refine V_goto (tgt := 8) h (dk dd_X12_next_0 38 rfl) rfl ?_
          refine V_wk (lw_s (lw_s (lw_s (lw_s (lw_s (lw_o (lw_s lw_n))))))) ?_
          exact ih8 _ _ _ ⟨by omega, by omega, by rw [erl_s hi0, if_neg (fun q => q.1 c45), ← hb], ht⟩ (by omega)
        · refine V_iload_n h (dk dd_X12_next_0 27 rfl) rfl get1 ?_
          refine V_if_lt (tgt := 59) h (dk dd_X12_next_0 28 rfl) rfl (by omega) (fun c49 => ?_) (fun c49 => ?_)
          · refine V_iload h (dk dd_X12_next_0 33 rfl) get4 ?_
            refine V_istore_n h (dk dd_X12_next_0 34 rfl) rfl (Nat.le_of_ble_eq_true rfl) rfl set1 ?_
            refine V_lload h (dk dd_X12_next_0 35 rfl) get5 ?_
            refine V_lstore_n h (dk dd_X12_next_0 36 rfl) rfl (Nat.le_of_ble_eq_true rfl) rfl set2 set3 ?_
            refine V_iinc h (dk dd_X12_next_0 37 rfl) get4 (Nat.le_of_ble_eq_true rfl) rfl set4 ?_
            refine V_goto (tgt := 8) h (dk dd_X12_next_0 38 rfl) rfl ?_
            refine V_wk (lw_s (lw_s (lw_s (lw_s (lw_s (lw_o (lw_s lw_n))))))) ?_
            exact ih8 (i + 1) i (tcF T S i) ⟨by omega, by omega, by rw [erl_s hi0, if_pos ⟨c45, Or.inl (by omega)⟩]; unfold nvM; rw [if_neg (by omega)], fun _ => rfl⟩ (by omega)
          · refine V_lload h (dk dd_X12_next_0 29 rfl) get5 ?_
            have htb : 0 ≤ t ∧ t ≤ 2002000000 := by rw [ht (by omega)]; have h1 := hT b (by omega) (by omega); have h2 := chord_R (hS b (by omega) (by omega)); unfold tcF; omega
            refine V_lload_n h (dk dd_X12_next_0 30 rfl) rfl get2 ?_
            refine V_lcmp_ge (tgt := 65) h (dk dd_X12_next_0 31 rfl) (dk dd_X12_next_0 32 rfl) rfl (by omega) (fun c55 => ?_) (fun c55 => ?_)
            · refine V_iinc h (dk dd_X12_next_0 37 rfl) get4 (Nat.le_of_ble_eq_true rfl) rfl set4 ?_
              refine V_goto (tgt := 8) h (dk dd_X12_next_0 38 rfl) rfl ?_
              refine V_wk (lw_s (lw_s (lw_s (lw_s (lw_s (lw_o (lw_s lw_n))))))) ?_
              exact ih8 _ _ _ ⟨by omega, by omega, by rw [erl_s hi0, if_neg (fun q => q.2.elim (fun q => by omega) (fun q => by rw [← (hb2.resolve_left (fun q => by omega)).2.2, ← ht (by omega)] at q; omega)), ← hb], ht⟩ (by omega)
            · refine V_iload h (dk dd_X12_next_0 33 rfl) get4 ?_
              refine V_istore_n h (dk dd_X12_next_0 34 rfl) rfl (Nat.le_of_ble_eq_true rfl) rfl set1 ?_
              refine V_lload h (dk dd_X12_next_0 35 rfl) get5 ?_
              refine V_lstore_n h (dk dd_X12_next_0 36 rfl) rfl (Nat.le_of_ble_eq_true rfl) rfl set2 set3 ?_
              refine V_iinc h (dk dd_X12_next_0 37 rfl) get4 (Nat.le_of_ble_eq_true rfl) rfl set4 ?_
              refine V_goto (tgt := 8) h (dk dd_X12_next_0 38 rfl) rfl ?_
              refine V_wk (lw_s (lw_s (lw_s (lw_s (lw_s (lw_o (lw_s lw_n))))))) ?_
              exact ih8 (i + 1) i (tcF T S i) ⟨by omega, by omega, by rw [erl_s hi0, if_pos ⟨c45, Or.inr (by rw [← (hb2.resolve_left (fun q => by omega)).2.2, ← ht (by omega)]; exact c55)⟩]; unfold nvM; rw [if_neg (by omega)], fun _ => rfl⟩ (by omega)
  exact L8 _ 0 (-100009) 0 ⟨by omega, by omega, rfl, fun q => by omega⟩ (Nat.lt_succ_self _)

set_option maxHeartbeats 4000000 in
set_option maxRecDepth 100000 in
theorem m_X12_covers (l : Launch) (G : GT) (x : Nat) (q : Nat → Nat) (pm ty ap fo wr rm hm sb be : Int) (vv : Int → Int) (i p : Int) (hi : 0 ≤ i ∧ i < 12) (hp : 0 ≤ p ∧ p < 27720) (h1 : 0 ≤ vF vv (i * 4 + 1) ∧ vF vv (i * 4 + 1) < 27720) (h2 : 1 ≤ vF vv (i * 4 + 2) ∧ vF vv (i * 4 + 2) ≤ 27720) : Ctr l G yX12_covers cX12_covers 3 (Option.some FieldType.boolean) (rmO 0 0 0 0) [.ref x, .int (iZ i), .int (iZ p)] [(x, .inr (11, [.ref (q 1), .ref (q 2), .int (iZ pm), .ref (q 3), .int (iZ ty), .int (iZ ap), .int (iZ fo), .int (iZ wr), .ref (q 4), .ref (q 5), .ref (q 6), .ref (q 7), .ref (q 8), .ref (q 9), .ref (q 10), .int (iZ rm), .ref (q 11), .ref (q 12), .int (iZ hm), .ref (q 13), .ref (q 14), .ref (q 15), .ref (q 16), .int (iZ sb), .int (iZ be), .ref (q 17), .ref (q 18)])), ((q 1), .inl (G.2 0, 60, .inl (iF vv)))] (Det (some (.int (iZ (bZ (covP (vF vv) i p))))) [(x, .inr (11, [.ref (q 1), .ref (q 2), .int (iZ pm), .ref (q 3), .int (iZ ty), .int (iZ ap), .int (iZ fo), .int (iZ wr), .ref (q 4), .ref (q 5), .ref (q 6), .ref (q 7), .ref (q 8), .ref (q 9), .ref (q 10), .int (iZ rm), .ref (q 11), .ref (q 12), .int (iZ hm), .ref (q 13), .ref (q 14), .ref (q 15), .ref (q 16), .int (iZ sb), .int (iZ be), .ref (q 17), .ref (q 18)])), ((q 1), .inl (G.2 0, 60, .inl (iF vv)))]) := by
  refine Ctr.go (own := RX12) (nm := "covers") (by decide +kernel) rfl rfl [some (.ref x), some (.int (iZ i)), some (.int (iZ p))] 0 rfl rfl (Nat.le_of_ble_eq_true rfl) ?_
  intro K h hF
  refine V_iload_n h (dk dd_X12_covers_0 0 rfl) rfl get2 ?_
  refine V_aload_n h (dk dd_X12_covers_0 1 rfl) rfl get0 ?_
  refine V_get h fl_X12_7 0 get0 get0 (dk dd_X12_covers_0 2 rfl) ?_
  refine V_iconst h (dk dd_X12_covers_0 3 rfl) ?_
  refine V_iconst h (dk dd_X12_covers_0 4 rfl) ?_
  refine V_iload_n h (dk dd_X12_covers_0 5 rfl) rfl get1 ?_
  refine V_imul h (dk dd_X12_covers_0 6 rfl) ?_
  refine V_iadd h (dk dd_X12_covers_0 7 rfl) ?_
  refine V_iconst h (dk dd_X12_covers_0 8 rfl) ?_
  refine V_iadd h (dk dd_X12_covers_0 9 rfl) ?_
  refine V_iald h 1 get1 (by omega) (dk dd_X12_covers_0 10 rfl) ?_
  rw [vF_1 (vv := vv) (i := i)]
  refine V_isub h (dk dd_X12_covers_0 11 rfl) ?_
  refine V_sipush h (dk dd_X12_covers_0 12 rfl) (by decide) ?_
  refine V_iadd h (dk dd_X12_covers_0 13 rfl) ?_
  refine V_sipush h (dk dd_X12_covers_0 14 rfl) (by decide) ?_
  refine V_iremP h (dk dd_X12_covers_0 15 rfl) (by omega) ?_
  refine V_aload_n h (dk dd_X12_covers_0 16 rfl) rfl get0 ?_
  refine V_get h fl_X12_7 0 get0 get0 (dk dd_X12_covers_0 17 rfl) ?_
  refine V_iconst h (dk dd_X12_covers_0 18 rfl) ?_
  refine V_iconst h (dk dd_X12_covers_0 19 rfl) ?_
  refine V_iload_n h (dk dd_X12_covers_0 20 rfl) rfl get1 ?_
  refine V_imul h (dk dd_X12_covers_0 21 rfl) ?_
  refine V_iadd h (dk dd_X12_covers_0 22 rfl) ?_
  refine V_iconst h (dk dd_X12_covers_0 23 rfl) ?_
  refine V_iadd h (dk dd_X12_covers_0 24 rfl) ?_
  refine V_iald h 1 get1 (by omega) (dk dd_X12_covers_0 25 rfl) ?_
  rw [vF_2 (vv := vv) (i := i)]
  refine V_icmp_ge (tgt := 41) h (dk dd_X12_covers_0 26 rfl) rfl (by omega) (fun c34 => ?_) (fun c34 => ?_)
  · refine V_iconst h (dk dd_X12_covers_0 29 rfl) ?_
    refine V_zret h hF (dk dd_X12_covers_0 30 rfl) ⟨Nat.le_of_ble_eq_true rfl, Nat.le_of_ble_eq_true rfl⟩ (by first | exact Or.inr rfl | exact Or.inl rfl | exact bZ_01 | omega) ?_
    first | exact det_i (bZ_t (P := covP (vF vv) i p) (by unfold covP; omega)).symm rfl | exact det_i (bZ_f (P := covP (vF vv) i p) (by unfold covP; omega)).symm rfl
  · refine V_iconst h (dk dd_X12_covers_0 27 rfl) ?_
    refine V_goto (tgt := 42) h (dk dd_X12_covers_0 28 rfl) rfl ?_
    refine V_zret h hF (dk dd_X12_covers_0 30 rfl) ⟨Nat.le_of_ble_eq_true rfl, Nat.le_of_ble_eq_true rfl⟩ (by first | exact Or.inr rfl | exact Or.inl rfl | exact bZ_01 | omega) ?_
    first | exact det_i (bZ_t (P := covP (vF vv) i p) (by unfold covP; omega)).symm rfl | exact det_i (bZ_f (P := covP (vF vv) i p) (by unfold covP; omega)).symm rfl

set_option maxHeartbeats 4000000 in
set_option maxRecDepth 100000 in
theorem m_X12_hears (l : Launch) (G : GT) (x : Nat) (q : Nat → Nat) (pm ty ap fo wr rm hm sb be : Int) (T E : Int → Int) (ie my su fi mo : Int → Int) (p r : Int) (hp : 0 ≤ p ∧ p < 12) (hr : 0 ≤ r ∧ r < 100) (hh : 1 ≤ hm ∧ hm ≤ 600) (hE : R32 (E r)) (hmy : R32 (my p)) (hmo : R32 (mo p)) : Ctr l G yX12_hears cX12_hears 3 none (rmO 0 0 0 0) [.ref x, .int (iZ p), .int (iZ r)] [(x, .inr (11, [.ref (q 1), .ref (q 2), .int (iZ pm), .ref (q 3), .int (iZ ty), .int (iZ ap), .int (iZ fo), .int (iZ wr), .ref (q 4), .ref (q 5), .ref (q 6), .ref (q 7), .ref (q 8), .ref (q 9), .ref (q 10), .int (iZ rm), .ref (q 11), .ref (q 12), .int (iZ hm), .ref (q 13), .ref (q 14), .ref (q 15), .ref (q 16), .int (iZ sb), .int (iZ be), .ref (q 17), .ref (q 18)])), ((q 7), .inl (G.2 1, 100, .inr (.inl (lF T)))), ((q 8), .inl (G.2 0, 100, .inl (iF E))), ((q 12), .inl (G.2 2, 600, .inl (iF ie))), ((q 13), .inl (G.2 0, 12, .inl (iF my))), ((q 14), .inl (G.2 1, 12, .inr (.inl (lF su)))), ((q 15), .inl (G.2 1, 12, .inr (.inl (lF fi)))), ((q 16), .inl (G.2 0, 12, .inl (iF mo)))] (Det none [(x, .inr (11, [.ref (q 1), .ref (q 2), .int (iZ pm), .ref (q 3), .int (iZ ty), .int (iZ ap), .int (iZ fo), .int (iZ wr), .ref (q 4), .ref (q 5), .ref (q 6), .ref (q 7), .ref (q 8), .ref (q 9), .ref (q 10), .int (iZ rm), .ref (q 11), .ref (q 12), .int (iZ hm), .ref (q 13), .ref (q 14), .ref (q 15), .ref (q 16), .int (iZ sb), .int (iZ be), .ref (q 17), .ref (q 18)])), ((q 7), .inl (G.2 1, 100, .inr (.inl (lF T)))), ((q 8), .inl (G.2 0, 100, .inl (iF E))), ((q 12), .inl (G.2 2, 600, .inl (iF (heaM hm p (T r) (E r) (ie, my, su, fi, mo)).1))), ((q 13), .inl (G.2 0, 12, .inl (iF (heaM hm p (T r) (E r) (ie, my, su, fi, mo)).2.1))), ((q 14), .inl (G.2 1, 12, .inr (.inl (lF (heaM hm p (T r) (E r) (ie, my, su, fi, mo)).2.2.1)))), ((q 15), .inl (G.2 1, 12, .inr (.inl (lF (heaM hm p (T r) (E r) (ie, my, su, fi, mo)).2.2.2.1)))), ((q 16), .inl (G.2 0, 12, .inl (iF (heaM hm p (T r) (E r) (ie, my, su, fi, mo)).2.2.2.2)))]) := by
  refine Ctr.go (own := RX12) (nm := "hears") (by decide +kernel) rfl rfl [some (.ref x), some (.int (iZ p)), some (.int (iZ r))] 0 rfl rfl (Nat.le_of_ble_eq_true rfl) ?_
  intro K h hF
  refine V_aload_n h (dk dd_X12_hears_0 0 rfl) rfl get0 ?_
  refine V_get h fl_X12_45 0 get0 get17 (dk dd_X12_hears_0 1 rfl) ?_
  refine V_aload_n h (dk dd_X12_hears_0 2 rfl) rfl get0 ?_
  refine V_get h fl_X12_172 0 get0 get18 (dk dd_X12_hears_0 3 rfl) ?_
  refine V_iconst h (dk dd_X12_hears_0 4 rfl) ?_
  refine V_isub h (dk dd_X12_hears_0 5 rfl) ?_
  refine V_iconst h (dk dd_X12_hears_0 6 rfl) ?_
  refine V_zast h 3 get3 (by omega) (by decide) set3 (dk dd_X12_hears_0 7 rfl) ?_
  refine V_aload_n h (dk dd_X12_hears_0 8 rfl) rfl get0 ?_
  refine V_get h fl_X12_54 0 get0 get21 (dk dd_X12_hears_0 9 rfl) ?_
  refine V_iload_n h (dk dd_X12_hears_0 10 rfl) rfl get1 ?_
  refine V_aload_n h (dk dd_X12_hears_0 11 rfl) rfl get0 ?_
  refine V_get h fl_X12_48 0 get0 get19 (dk dd_X12_hears_0 12 rfl) ?_
  refine V_iload_n h (dk dd_X12_hears_0 13 rfl) rfl get1 ?_
  refine V_iald h 4 get4 (by omega) (dk dd_X12_hears_0 14 rfl) ?_
  refine V_if_ne (tgt := 35) h (dk dd_X12_hears_0 15 rfl) rfl (by omega) (fun c23 => ?_) (fun c23 => ?_)
  · refine V_aload_n h (dk dd_X12_hears_0 21 rfl) rfl get0 ?_
    refine V_get h fl_X12_54 0 get0 get21 (dk dd_X12_hears_0 22 rfl) ?_
    refine V_iload_n h (dk dd_X12_hears_0 23 rfl) rfl get1 ?_
    refine V_lald h 6 get6 (by omega) (dk dd_X12_hears_0 24 rfl) ?_
    refine V_last h 6 get6 (by omega) set6 (dk dd_X12_hears_0 25 rfl) ?_
    refine V_aload_n h (dk dd_X12_hears_0 26 rfl) rfl get0 ?_
    refine V_get h fl_X12_48 0 get0 get19 (dk dd_X12_hears_0 27 rfl) ?_
    refine V_iload_n h (dk dd_X12_hears_0 28 rfl) rfl get1 ?_
    refine V_dup2 h (dk dd_X12_hears_0 29 rfl) rfl rfl ?_
    refine V_iald h 4 get4 (by omega) (dk dd_X12_hears_0 30 rfl) ?_
    refine V_iconst h (dk dd_X12_hears_0 31 rfl) ?_
    refine V_iadd h (dk dd_X12_hears_0 32 rfl) ?_
    refine V_iast h 4 get4 (by omega) set4 (dk dd_X12_hears_0 33 rfl) ?_
    refine V_aload_n h (dk dd_X12_hears_0 34 rfl) rfl get0 ?_
    refine V_get h fl_X12_51 0 get0 get20 (dk dd_X12_hears_0 35 rfl) ?_
    refine V_iload_n h (dk dd_X12_hears_0 36 rfl) rfl get1 ?_
    refine V_dup2 h (dk dd_X12_hears_0 37 rfl) rfl rfl ?_
    refine V_lald h 5 get5 (by omega) (dk dd_X12_hears_0 38 rfl) ?_
    refine V_aload_n h (dk dd_X12_hears_0 39 rfl) rfl get0 ?_
    refine V_get h fl_X12_32 0 get0 get12 (dk dd_X12_hears_0 40 rfl) ?_
    refine V_iload_n h (dk dd_X12_hears_0 41 rfl) rfl get2 ?_
    refine V_iald h 2 get2 (by omega) (dk dd_X12_hears_0 42 rfl) ?_
    refine V_i2l h (dk dd_X12_hears_0 43 rfl) (by omega) ?_
    refine V_ladd h (dk dd_X12_hears_0 44 rfl) ?_
    refine V_last h 5 get5 (by omega) set5 (dk dd_X12_hears_0 45 rfl) ?_
    refine V_aload_n h (dk dd_X12_hears_0 46 rfl) rfl get0 ?_
    refine V_get h fl_X12_57 0 get0 get22 (dk dd_X12_hears_0 47 rfl) ?_
    refine V_iload_n h (dk dd_X12_hears_0 48 rfl) rfl get1 ?_
    refine V_aload_n h (dk dd_X12_hears_0 49 rfl) rfl get0 ?_
    refine V_get h fl_X12_32 0 get0 get12 (dk dd_X12_hears_1 0 rfl) ?_
    refine V_iload_n h (dk dd_X12_hears_1 1 rfl) rfl get2 ?_
    refine V_iald h 2 get2 (by omega) (dk dd_X12_hears_1 2 rfl) ?_
    refine V_aload_n h (dk dd_X12_hears_1 3 rfl) rfl get0 ?_
    refine V_get h fl_X12_57 0 get0 get22 (dk dd_X12_hears_1 4 rfl) ?_
    refine V_iload_n h (dk dd_X12_hears_1 5 rfl) rfl get1 ?_
    refine V_iald h 7 get7 (by omega) (dk dd_X12_hears_1 6 rfl) ?_
    refine V_icmp_le (tgt := 97) h (dk dd_X12_hears_1 7 rfl) rfl (by omega) (fun c85 => ?_) (fun c85 => ?_)
    · refine V_aload_n h (dk dd_X12_hears_1 13 rfl) rfl get0 ?_
      refine V_get h fl_X12_57 0 get0 get22 (dk dd_X12_hears_1 14 rfl) ?_
      refine V_iload_n h (dk dd_X12_hears_1 15 rfl) rfl get1 ?_
      refine V_iald h 7 get7 (by omega) (dk dd_X12_hears_1 16 rfl) ?_
      refine V_iast h 7 get7 (by omega) set7 (dk dd_X12_hears_1 17 rfl) ?_
      refine V_vret h hF (dk dd_X12_hears_1 18 rfl) ⟨Nat.le_of_ble_eq_true rfl, Nat.le_of_ble_eq_true rfl⟩ ?_
      refine det_v ?_
      unfold heaM
      dsimp only
      first | rw [if_pos c23] | rw [if_neg c23]
      first | rw [show max (mo p) (E r) = E r by omega] | rw [show max (mo p) (E r) = mo p by omega]
    · refine V_aload_n h (dk dd_X12_hears_1 8 rfl) rfl get0 ?_
      refine V_get h fl_X12_32 0 get0 get12 (dk dd_X12_hears_1 9 rfl) ?_
      refine V_iload_n h (dk dd_X12_hears_1 10 rfl) rfl get2 ?_
      refine V_iald h 2 get2 (by omega) (dk dd_X12_hears_1 11 rfl) ?_
      refine V_goto (tgt := 103) h (dk dd_X12_hears_1 12 rfl) rfl ?_
      refine V_iast h 7 get7 (by omega) set7 (dk dd_X12_hears_1 17 rfl) ?_
      refine V_vret h hF (dk dd_X12_hears_1 18 rfl) ⟨Nat.le_of_ble_eq_true rfl, Nat.le_of_ble_eq_true rfl⟩ ?_
      refine det_v ?_
      unfold heaM
      dsimp only
      first | rw [if_pos c23] | rw [if_neg c23]
      first | rw [show max (mo p) (E r) = E r by omega] | rw [show max (mo p) (E r) = mo p by omega]
  · refine V_aload_n h (dk dd_X12_hears_0 16 rfl) rfl get0 ?_
    refine V_get h fl_X12_28 0 get0 get11 (dk dd_X12_hears_0 17 rfl) ?_
    refine V_iload_n h (dk dd_X12_hears_0 18 rfl) rfl get2 ?_
    refine V_lald h 1 get1 (by omega) (dk dd_X12_hears_0 19 rfl) ?_
    refine V_goto (tgt := 41) h (dk dd_X12_hears_0 20 rfl) rfl ?_
    refine V_last h 6 get6 (by omega) set6 (dk dd_X12_hears_0 25 rfl) ?_
    refine V_aload_n h (dk dd_X12_hears_0 26 rfl) rfl get0 ?_
    refine V_get h fl_X12_48 0 get0 get19 (dk dd_X12_hears_0 27 rfl) ?_
    refine V_iload_n h (dk dd_X12_hears_0 28 rfl) rfl get1 ?_
    refine V_dup2 h (dk dd_X12_hears_0 29 rfl) rfl rfl ?_
    refine V_iald h 4 get4 (by omega) (dk dd_X12_hears_0 30 rfl) ?_
    refine V_iconst h (dk dd_X12_hears_0 31 rfl) ?_
    refine V_iadd h (dk dd_X12_hears_0 32 rfl) ?_
    refine V_iast h 4 get4 (by omega) set4 (dk dd_X12_hears_0 33 rfl) ?_
    refine V_aload_n h (dk dd_X12_hears_0 34 rfl) rfl get0 ?_
    refine V_get h fl_X12_51 0 get0 get20 (dk dd_X12_hears_0 35 rfl) ?_
    refine V_iload_n h (dk dd_X12_hears_0 36 rfl) rfl get1 ?_
    refine V_dup2 h (dk dd_X12_hears_0 37 rfl) rfl rfl ?_
    refine V_lald h 5 get5 (by omega) (dk dd_X12_hears_0 38 rfl) ?_
    refine V_aload_n h (dk dd_X12_hears_0 39 rfl) rfl get0 ?_
    refine V_get h fl_X12_32 0 get0 get12 (dk dd_X12_hears_0 40 rfl) ?_
    refine V_iload_n h (dk dd_X12_hears_0 41 rfl) rfl get2 ?_
    refine V_iald h 2 get2 (by omega) (dk dd_X12_hears_0 42 rfl) ?_
    refine V_i2l h (dk dd_X12_hears_0 43 rfl) (by omega) ?_
    refine V_ladd h (dk dd_X12_hears_0 44 rfl) ?_
    refine V_last h 5 get5 (by omega) set5 (dk dd_X12_hears_0 45 rfl) ?_
    refine V_aload_n h (dk dd_X12_hears_0 46 rfl) rfl get0 ?_
    refine V_get h fl_X12_57 0 get0 get22 (dk dd_X12_hears_0 47 rfl) ?_
    refine V_iload_n h (dk dd_X12_hears_0 48 rfl) rfl get1 ?_
    refine V_aload_n h (dk dd_X12_hears_0 49 rfl) rfl get0 ?_
    refine V_get h fl_X12_32 0 get0 get12 (dk dd_X12_hears_1 0 rfl) ?_
    refine V_iload_n h (dk dd_X12_hears_1 1 rfl) rfl get2 ?_
    refine V_iald h 2 get2 (by omega) (dk dd_X12_hears_1 2 rfl) ?_
    refine V_aload_n h (dk dd_X12_hears_1 3 rfl) rfl get0 ?_
    refine V_get h fl_X12_57 0 get0 get22 (dk dd_X12_hears_1 4 rfl) ?_
    refine V_iload_n h (dk dd_X12_hears_1 5 rfl) rfl get1 ?_
    refine V_iald h 7 get7 (by omega) (dk dd_X12_hears_1 6 rfl) ?_
    refine V_icmp_le (tgt := 97) h (dk dd_X12_hears_1 7 rfl) rfl (by omega) (fun c85_2 => ?_) (fun c85_2 => ?_)
    · refine V_aload_n h (dk dd_X12_hears_1 13 rfl) rfl get0 ?_
      refine V_get h fl_X12_57 0 get0 get22 (dk dd_X12_hears_1 14 rfl) ?_
      refine V_iload_n h (dk dd_X12_hears_1 15 rfl) rfl get1 ?_
      refine V_iald h 7 get7 (by omega) (dk dd_X12_hears_1 16 rfl) ?_
      refine V_iast h 7 get7 (by omega) set7 (dk dd_X12_hears_1 17 rfl) ?_
      refine V_vret h hF (dk dd_X12_hears_1 18 rfl) ⟨Nat.le_of_ble_eq_true rfl, Nat.le_of_ble_eq_true rfl⟩ ?_
      refine det_v ?_
      unfold heaM
      dsimp only
      first | rw [if_pos c23] | rw [if_neg c23]
      first | rw [show max (mo p) (E r) = E r by omega] | rw [show max (mo p) (E r) = mo p by omega]
    · refine V_aload_n h (dk dd_X12_hears_1 8 rfl) rfl get0 ?_
      refine V_get h fl_X12_32 0 get0 get12 (dk dd_X12_hears_1 9 rfl) ?_
      refine V_iload_n h (dk dd_X12_hears_1 10 rfl) rfl get2 ?_
      refine V_iald h 2 get2 (by omega) (dk dd_X12_hears_1 11 rfl) ?_
      refine V_goto (tgt := 103) h (dk dd_X12_hears_1 12 rfl) rfl ?_
      refine V_iast h 7 get7 (by omega) set7 (dk dd_X12_hears_1 17 rfl) ?_
      refine V_vret h hF (dk dd_X12_hears_1 18 rfl) ⟨Nat.le_of_ble_eq_true rfl, Nat.le_of_ble_eq_true rfl⟩ ?_
      refine det_v ?_
      unfold heaM
      dsimp only
      first | rw [if_pos c23] | rw [if_neg c23]
      first | rw [show max (mo p) (E r) = E r by omega] | rw [show max (mo p) (E r) = mo p by omega]

set_option maxHeartbeats 4000000 in
set_option maxRecDepth 100000 in
theorem m_X12_meets (l : Launch) (G : GT) (x : Nat) (q : Nat → Nat) (pm ty ap fo wr rm hm sb be : Int) (P T E S U : Int → Int) (vv : Int → Int) (ie my su fi mo : Int → Int) (i r tb hb : Int) (hI : RI tb (rm, P, S, E, T, U)) (hEI : EI hb (ie, my, su, fi, mo)) (hhb : 0 ≤ hb ∧ hb ≤ 1000000) (hr : 0 ≤ r ∧ r < rm) (hh : 1 ≤ hm ∧ hm ≤ 600) (hi : 0 ≤ i ∧ i < 12) (hp : PartOK (vF vv) i) (hz : R32 (vv 2)) : Ctr l G yX12_meets cX12_meets 5 none (rmO 3 0 0 64) [.ref x, .int (iZ i), .int (iZ r)] [(x, .inr (11, [.ref (q 1), .ref (q 2), .int (iZ pm), .ref (q 3), .int (iZ ty), .int (iZ ap), .int (iZ fo), .int (iZ wr), .ref (q 4), .ref (q 5), .ref (q 6), .ref (q 7), .ref (q 8), .ref (q 9), .ref (q 10), .int (iZ rm), .ref (q 11), .ref (q 12), .int (iZ hm), .ref (q 13), .ref (q 14), .ref (q 15), .ref (q 16), .int (iZ sb), .int (iZ be), .ref (q 17), .ref (q 18)])), ((q 1), .inl (G.2 0, 60, .inl (iF vv))), ((q 6), .inl (G.2 0, 100, .inl (iF P))), ((q 7), .inl (G.2 1, 100, .inr (.inl (lF T)))), ((q 8), .inl (G.2 0, 100, .inl (iF E))), ((q 9), .inl (G.2 0, 100, .inl (iF S))), ((q 10), .inl (G.2 2, 100, .inl (iF U))), ((q 12), .inl (G.2 2, 600, .inl (iF ie))), ((q 13), .inl (G.2 0, 12, .inl (iF my))), ((q 14), .inl (G.2 1, 12, .inr (.inl (lF su)))), ((q 15), .inl (G.2 1, 12, .inr (.inl (lF fi)))), ((q 16), .inl (G.2 0, 12, .inl (iF mo)))] (Det none [(x, .inr (11, [.ref (q 1), .ref (q 2), .int (iZ pm), .ref (q 3), .int (iZ ty), .int (iZ ap), .int (iZ fo), .int (iZ wr), .ref (q 4), .ref (q 5), .ref (q 6), .ref (q 7), .ref (q 8), .ref (q 9), .ref (q 10), .int (iZ (actM (vv 2) hm (vF vv (i * 4 + 0)) (vF vv (i * 4 + 3)) i r ((rm, P, S, E, T, U), (ie, my, su, fi, mo))).1.1), .ref (q 11), .ref (q 12), .int (iZ hm), .ref (q 13), .ref (q 14), .ref (q 15), .ref (q 16), .int (iZ sb), .int (iZ be), .ref (q 17), .ref (q 18)])), ((q 1), .inl (G.2 0, 60, .inl (iF vv))), ((q 6), .inl (G.2 0, 100, .inl (iF (actM (vv 2) hm (vF vv (i * 4 + 0)) (vF vv (i * 4 + 3)) i r ((rm, P, S, E, T, U), (ie, my, su, fi, mo))).1.2.1))), ((q 7), .inl (G.2 1, 100, .inr (.inl (lF (actM (vv 2) hm (vF vv (i * 4 + 0)) (vF vv (i * 4 + 3)) i r ((rm, P, S, E, T, U), (ie, my, su, fi, mo))).1.2.2.2.2.1)))), ((q 8), .inl (G.2 0, 100, .inl (iF (actM (vv 2) hm (vF vv (i * 4 + 0)) (vF vv (i * 4 + 3)) i r ((rm, P, S, E, T, U), (ie, my, su, fi, mo))).1.2.2.2.1))), ((q 9), .inl (G.2 0, 100, .inl (iF (actM (vv 2) hm (vF vv (i * 4 + 0)) (vF vv (i * 4 + 3)) i r ((rm, P, S, E, T, U), (ie, my, su, fi, mo))).1.2.2.1))), ((q 10), .inl (G.2 2, 100, .inl (iF (actM (vv 2) hm (vF vv (i * 4 + 0)) (vF vv (i * 4 + 3)) i r ((rm, P, S, E, T, U), (ie, my, su, fi, mo))).1.2.2.2.2.2))), ((q 12), .inl (G.2 2, 600, .inl (iF (actM (vv 2) hm (vF vv (i * 4 + 0)) (vF vv (i * 4 + 3)) i r ((rm, P, S, E, T, U), (ie, my, su, fi, mo))).2.1))), ((q 13), .inl (G.2 0, 12, .inl (iF (actM (vv 2) hm (vF vv (i * 4 + 0)) (vF vv (i * 4 + 3)) i r ((rm, P, S, E, T, U), (ie, my, su, fi, mo))).2.2.1))), ((q 14), .inl (G.2 1, 12, .inr (.inl (lF (actM (vv 2) hm (vF vv (i * 4 + 0)) (vF vv (i * 4 + 3)) i r ((rm, P, S, E, T, U), (ie, my, su, fi, mo))).2.2.2.1)))), ((q 15), .inl (G.2 1, 12, .inr (.inl (lF (actM (vv 2) hm (vF vv (i * 4 + 0)) (vF vv (i * 4 + 3)) i r ((rm, P, S, E, T, U), (ie, my, su, fi, mo))).2.2.2.2.1)))), ((q 16), .inl (G.2 0, 12, .inl (iF (actM (vv 2) hm (vF vv (i * 4 + 0)) (vF vv (i * 4 + 3)) i r ((rm, P, S, E, T, U), (ie, my, su, fi, mo))).2.2.2.2.2)))]) := by
  refine Ctr.go (own := RX12) (nm := "meets") (by decide +kernel) rfl rfl [some (.ref x), some (.int (iZ i)), some (.int (iZ r)), none, none] 2 rfl rfl (Nat.le_of_ble_eq_true rfl) ?_
  intro K h hF
  have hk := hp.k
  have hk2 := hp.1
  have q := RI_one hI hr
  have hm1 := hI.1
  have hm2 := hI.2.1
  dsimp only at hm1 hm2
  have ht := tilt_R (S r) (vF vv (i * 4 + 3))
  have qe := hEI i hi.1 hi.2
  dsimp only at qe
  refine V_aload_n h (dk dd_X12_meets_0 0 rfl) rfl get0 ?_
  refine V_get h fl_X12_7 0 get0 get0 (dk dd_X12_meets_0 1 rfl) ?_
  refine V_iconst h (dk dd_X12_meets_0 2 rfl) ?_
  refine V_iconst h (dk dd_X12_meets_0 3 rfl) ?_
  refine V_iload_n h (dk dd_X12_meets_0 4 rfl) rfl get1 ?_
  refine V_imul h (dk dd_X12_meets_0 5 rfl) ?_
  refine V_iadd h (dk dd_X12_meets_0 6 rfl) ?_
  refine V_iconst h (dk dd_X12_meets_0 7 rfl) ?_
  refine V_iadd h (dk dd_X12_meets_0 8 rfl) ?_
  refine V_iald h 1 get1 (by omega) (dk dd_X12_meets_0 9 rfl) ?_
  rw [vF_k (vv := vv) (i := i)]
  refine V_istore_n h (dk dd_X12_meets_0 10 rfl) rfl (Nat.le_of_ble_eq_true rfl) rfl set3 ?_
  refine V_aload_n h (dk dd_X12_meets_0 11 rfl) rfl get0 ?_
  refine V_get h fl_X12_7 0 get0 get0 (dk dd_X12_meets_0 12 rfl) ?_
  refine V_iconst h (dk dd_X12_meets_0 13 rfl) ?_
  refine V_iconst h (dk dd_X12_meets_0 14 rfl) ?_
  refine V_iload_n h (dk dd_X12_meets_0 15 rfl) rfl get1 ?_
  refine V_imul h (dk dd_X12_meets_0 16 rfl) ?_
  refine V_iadd h (dk dd_X12_meets_0 17 rfl) ?_
  refine V_iald h 1 get1 (by omega) (dk dd_X12_meets_0 18 rfl) ?_
  rw [vF_0 (vv := vv) (i := i)]
  rcases (show vF vv (i * 4 + 0) = 0 ∨ vF vv (i * 4 + 0) = 1 ∨ vF vv (i * 4 + 0) = 2 ∨ vF vv (i * 4 + 0) = 3 ∨ vF vv (i * 4 + 0) = 4 from (by omega)) with hs0 | hs0 | hs0 | hs0 | hs0
  · refine V_tsI (tgt := 52) (v := 0) h (dk dd_X12_meets_0 19 rfl) (by omega) rfl rfl ?_
    refine V_aload_n h (dk dd_X12_meets_0 20 rfl) rfl get0 ?_
    refine V_get h fl_X12_32 0 get0 get12 (dk dd_X12_meets_0 21 rfl) ?_
    refine V_iload_n h (dk dd_X12_meets_0 22 rfl) rfl get2 ?_
    refine V_aload_n h (dk dd_X12_meets_0 23 rfl) rfl get0 ?_
    refine V_get h fl_X12_32 0 get0 get12 (dk dd_X12_meets_0 24 rfl) ?_
    refine V_iload_n h (dk dd_X12_meets_0 25 rfl) rfl get2 ?_
    refine V_iald h 4 get4 (by omega) (dk dd_X12_meets_0 26 rfl) ?_
    refine V_i2l h (dk dd_X12_meets_0 27 rfl) (by omega) ?_
    refine V_sipush h (dk dd_X12_meets_0 28 rfl) (by decide) ?_
    refine V_iload_n h (dk dd_X12_meets_0 29 rfl) rfl get3 ?_
    refine V_isub h (dk dd_X12_meets_0 30 rfl) ?_
    refine V_i2l h (dk dd_X12_meets_0 31 rfl) (by omega) ?_
    have hlb := lose_b q.2.2.1 (hk.1 hs0)
    have hm3 := Int.mul_nonneg (a := E r) (b := 1000 - vF vv (i * 4 + 3)) (by omega) (by have := hk.1 hs0; omega)
    have hm4 := Int.mul_le_mul_of_nonneg_left (a := 1000 - vF vv (i * 4 + 3)) (b := 1000) (c := E r) (by have := hk.1 hs0; omega) (by omega)
    refine V_lmul h (dk dd_X12_meets_0 32 rfl) ?_
    refine V_ldc2 h q5_11 (dk dd_X12_meets_0 33 rfl) ?_
    refine V_ldivP h (dk dd_X12_meets_0 34 rfl) (by omega) ?_
    refine V_l2i h (dk dd_X12_meets_0 35 rfl) ?_
    refine V_iast h 4 get4 (by omega) set4 (dk dd_X12_meets_0 36 rfl) ?_
    refine V_goto (tgt := 248) h (dk dd_X12_meets_0 37 rfl) rfl ?_
    refine V_vret h hF (dk dd_X12_meets_2 37 rfl) ⟨Nat.le_of_ble_eq_true rfl, Nat.le_of_ble_eq_true rfl⟩ ?_
    first
      | exact det_v (by rw [actM_0 hs0])
      | exact det_v (by rw [actM_1 hs0])
      | exact det_v (by rw [actM_2 hs0, if_pos c111, if_pos c111])
      | exact det_v (by rw [actM_2 hs0, if_neg c111, if_neg c111])
      | exact det_v (by rw [actM_3 hs0, spM_f (by omega)])
      | (have h9 : ¬ rm < 100 := by omega
         exact det_v (by rw [actM_3 hs0, spM_t (by omega)]; unfold bgM bgZ; simp only [if_neg h9]))
      | (have h9 : rm < 100 := by omega
         exact det_v (by rw [actM_3 hs0, spM_t (by omega)]; unfold bgM bgZ; simp only [if_pos h9]))
      | exact det_v (by rw [actM_4 hs0])
  · refine V_tsI (tgt := 80) (v := 1) h (dk dd_X12_meets_0 19 rfl) (by omega) rfl rfl ?_
    refine V_aload_n h (dk dd_X12_meets_0 38 rfl) rfl get0 ?_
    refine V_get h fl_X12_35 0 get0 get13 (dk dd_X12_meets_0 39 rfl) ?_
    refine V_iload_n h (dk dd_X12_meets_0 40 rfl) rfl get2 ?_
    refine V_aload_n h (dk dd_X12_meets_0 41 rfl) rfl get0 ?_
    refine V_get h fl_X12_35 0 get0 get13 (dk dd_X12_meets_0 42 rfl) ?_
    refine V_iload_n h (dk dd_X12_meets_0 43 rfl) rfl get2 ?_
    refine V_iald h 5 get5 (by omega) (dk dd_X12_meets_0 44 rfl) ?_
    refine V_ineg h (dk dd_X12_meets_0 45 rfl) ?_
    refine V_iast h 5 get5 (by omega) set5 (dk dd_X12_meets_0 46 rfl) ?_
    refine V_goto (tgt := 248) h (dk dd_X12_meets_0 47 rfl) rfl ?_
    refine V_vret h hF (dk dd_X12_meets_2 37 rfl) ⟨Nat.le_of_ble_eq_true rfl, Nat.le_of_ble_eq_true rfl⟩ ?_
    first
      | exact det_v (by rw [actM_0 hs0])
      | exact det_v (by rw [actM_1 hs0])
      | exact det_v (by rw [actM_2 hs0, if_pos c111, if_pos c111])
      | exact det_v (by rw [actM_2 hs0, if_neg c111, if_neg c111])
      | exact det_v (by rw [actM_3 hs0, spM_f (by omega)])
      | (have h9 : ¬ rm < 100 := by omega
         exact det_v (by rw [actM_3 hs0, spM_t (by omega)]; unfold bgM bgZ; simp only [if_neg h9]))
      | (have h9 : rm < 100 := by omega
         exact det_v (by rw [actM_3 hs0, spM_t (by omega)]; unfold bgM bgZ; simp only [if_pos h9]))
      | exact det_v (by rw [actM_4 hs0])
  · refine V_tsI (tgt := 96) (v := 2) h (dk dd_X12_meets_0 19 rfl) (by omega) rfl rfl ?_
    refine V_aload_n h (dk dd_X12_meets_0 48 rfl) rfl get0 ?_
    refine V_get h fl_X12_38 0 get0 get14 (dk dd_X12_meets_0 49 rfl) ?_
    refine V_iload_n h (dk dd_X12_meets_1 0 rfl) rfl get2 ?_
    refine V_aload_n h (dk dd_X12_meets_1 1 rfl) rfl get0 ?_
    refine V_get h fl_X12_35 0 get0 get13 (dk dd_X12_meets_1 2 rfl) ?_
    refine V_iload_n h (dk dd_X12_meets_1 3 rfl) rfl get2 ?_
    refine V_iald h 5 get5 (by omega) (dk dd_X12_meets_1 4 rfl) ?_
    refine V_iload_n h (dk dd_X12_meets_1 5 rfl) rfl get3 ?_
    refine V_callS h st2 ci_X12_177 pk_n rfl (m_X12_tilted l G _ _ (q.2.1) (by omega)) rfl rfl (Nat.le_of_ble_eq_true rfl) (by decide) ⟨rfl, rfl, rfl⟩ (dk dd_X12_meets_1 6 rfl) sk1 sm_n ?_
    refine V_if_eq (tgt := 118) h (dk dd_X12_meets_1 7 rfl) rfl (by omega) (fun c111 => ?_) (fun c111 => ?_)
    · refine V_iconst h (dk dd_X12_meets_1 10 rfl) ?_
      refine V_zast h 6 get6 (by omega) (by decide) set6 (dk dd_X12_meets_1 11 rfl) ?_
      refine V_aload_n h (dk dd_X12_meets_1 12 rfl) rfl get0 ?_
      refine V_get h fl_X12_35 0 get0 get13 (dk dd_X12_meets_1 13 rfl) ?_
      refine V_iload_n h (dk dd_X12_meets_1 14 rfl) rfl get2 ?_
      refine V_aload_n h (dk dd_X12_meets_1 15 rfl) rfl get0 ?_
      refine V_get h fl_X12_38 0 get0 get14 (dk dd_X12_meets_1 16 rfl) ?_
      refine V_iload_n h (dk dd_X12_meets_1 17 rfl) rfl get2 ?_
      refine V_zald h 6 get6 (by omega) (dk dd_X12_meets_1 18 rfl) ?_
      rw [zup_s]
      refine V_if_eq (tgt := 147) h (dk dd_X12_meets_1 19 rfl) rfl (by omega) (fun c131 => ?_) (fun c131 => ?_)
      · refine V_aload_n h (dk dd_X12_meets_1 27 rfl) rfl get0 ?_
        refine V_get h fl_X12_35 0 get0 get13 (dk dd_X12_meets_1 28 rfl) ?_
        refine V_iload_n h (dk dd_X12_meets_1 29 rfl) rfl get2 ?_
        refine V_iald h 5 get5 (by omega) (dk dd_X12_meets_1 30 rfl) ?_
        refine V_iast h 5 get5 (by omega) set5 (dk dd_X12_meets_1 31 rfl) ?_
        refine V_goto (tgt := 248) h (dk dd_X12_meets_1 32 rfl) rfl ?_
        refine V_vret h hF (dk dd_X12_meets_2 37 rfl) ⟨Nat.le_of_ble_eq_true rfl, Nat.le_of_ble_eq_true rfl⟩ ?_
        first
          | exact det_v (by rw [actM_0 hs0])
          | exact det_v (by rw [actM_1 hs0])
          | exact det_v (by rw [actM_2 hs0, if_pos c111, if_pos c111])
          | exact det_v (by rw [actM_2 hs0, if_neg c111, if_neg c111])
          | exact det_v (by rw [actM_3 hs0, spM_f (by omega)])
          | (have h9 : ¬ rm < 100 := by omega
             exact det_v (by rw [actM_3 hs0, spM_t (by omega)]; unfold bgM bgZ; simp only [if_neg h9]))
          | (have h9 : rm < 100 := by omega
             exact det_v (by rw [actM_3 hs0, spM_t (by omega)]; unfold bgM bgZ; simp only [if_pos h9]))
          | exact det_v (by rw [actM_4 hs0])
      · exfalso; omega
    · refine V_iconst h (dk dd_X12_meets_1 8 rfl) ?_
      refine V_goto (tgt := 119) h (dk dd_X12_meets_1 9 rfl) rfl ?_
      refine V_zast h 6 get6 (by omega) (by decide) set6 (dk dd_X12_meets_1 11 rfl) ?_
      refine V_aload_n h (dk dd_X12_meets_1 12 rfl) rfl get0 ?_
      refine V_get h fl_X12_35 0 get0 get13 (dk dd_X12_meets_1 13 rfl) ?_
      refine V_iload_n h (dk dd_X12_meets_1 14 rfl) rfl get2 ?_
      refine V_aload_n h (dk dd_X12_meets_1 15 rfl) rfl get0 ?_
      refine V_get h fl_X12_38 0 get0 get14 (dk dd_X12_meets_1 16 rfl) ?_
      refine V_iload_n h (dk dd_X12_meets_1 17 rfl) rfl get2 ?_
      refine V_zald h 6 get6 (by omega) (dk dd_X12_meets_1 18 rfl) ?_
      rw [zup_s]
      refine V_if_eq (tgt := 147) h (dk dd_X12_meets_1 19 rfl) rfl (by omega) (fun c131_2 => ?_) (fun c131_2 => ?_)
      · exfalso; omega
      · refine V_aload_n h (dk dd_X12_meets_1 20 rfl) rfl get0 ?_
        refine V_get h fl_X12_35 0 get0 get13 (dk dd_X12_meets_1 21 rfl) ?_
        refine V_iload_n h (dk dd_X12_meets_1 22 rfl) rfl get2 ?_
        refine V_iald h 5 get5 (by omega) (dk dd_X12_meets_1 23 rfl) ?_
        refine V_iload_n h (dk dd_X12_meets_1 24 rfl) rfl get3 ?_
        refine V_callS h st2 ci_X12_177 pk_n rfl (m_X12_tilted l G _ _ (q.2.1) (by omega)) rfl rfl (Nat.le_of_ble_eq_true rfl) (by decide) ⟨rfl, rfl, rfl⟩ (dk dd_X12_meets_1 25 rfl) sk1 sm_n ?_
        refine V_goto (tgt := 153) h (dk dd_X12_meets_1 26 rfl) rfl ?_
        refine V_iast h 5 get5 (by omega) set5 (dk dd_X12_meets_1 31 rfl) ?_
        refine V_goto (tgt := 248) h (dk dd_X12_meets_1 32 rfl) rfl ?_
        refine V_vret h hF (dk dd_X12_meets_2 37 rfl) ⟨Nat.le_of_ble_eq_true rfl, Nat.le_of_ble_eq_true rfl⟩ ?_
        first
          | exact det_v (by rw [actM_0 hs0])
          | exact det_v (by rw [actM_1 hs0])
          | exact det_v (by rw [actM_2 hs0, if_pos c111, if_pos c111])
          | exact det_v (by rw [actM_2 hs0, if_neg c111, if_neg c111])
          | exact det_v (by rw [actM_3 hs0, spM_f (by omega)])
          | (have h9 : ¬ rm < 100 := by omega
             exact det_v (by rw [actM_3 hs0, spM_t (by omega)]; unfold bgM bgZ; simp only [if_neg h9]))
          | (have h9 : rm < 100 := by omega
             exact det_v (by rw [actM_3 hs0, spM_t (by omega)]; unfold bgM bgZ; simp only [if_pos h9]))
          | exact det_v (by rw [actM_4 hs0])
  · refine V_tsI (tgt := 157) (v := 3) h (dk dd_X12_meets_0 19 rfl) (by omega) rfl rfl ?_
    refine V_aload_n h (dk dd_X12_meets_1 33 rfl) rfl get0 ?_
    refine V_get h fl_X12_32 0 get0 get12 (dk dd_X12_meets_1 34 rfl) ?_
    refine V_iload_n h (dk dd_X12_meets_1 35 rfl) rfl get2 ?_
    refine V_iald h 4 get4 (by omega) (dk dd_X12_meets_1 36 rfl) ?_
    refine V_iconst h (dk dd_X12_meets_1 37 rfl) ?_
    refine V_idivP h (dk dd_X12_meets_1 38 rfl) (by omega) ?_
    refine V_istore h (dk dd_X12_meets_1 39 rfl) (Nat.le_of_ble_eq_true rfl) rfl set4 ?_
    refine V_aload_n h (dk dd_X12_meets_1 40 rfl) rfl get0 ?_
    refine V_get h fl_X12_32 0 get0 get12 (dk dd_X12_meets_1 41 rfl) ?_
    refine V_iload_n h (dk dd_X12_meets_1 42 rfl) rfl get2 ?_
    refine V_dup2 h (dk dd_X12_meets_1 43 rfl) rfl rfl ?_
    refine V_iald h 4 get4 (by omega) (dk dd_X12_meets_1 44 rfl) ?_
    refine V_iload h (dk dd_X12_meets_1 45 rfl) get4 ?_
    refine V_isub h (dk dd_X12_meets_1 46 rfl) ?_
    refine V_iast h 4 get4 (by omega) set4 (dk dd_X12_meets_1 47 rfl) ?_
    refine V_aload_n h (dk dd_X12_meets_1 48 rfl) rfl get0 ?_
    refine V_get h fl_X12_35 0 get0 get13 (dk dd_X12_meets_1 49 rfl) ?_
    refine V_iload_n h (dk dd_X12_meets_2 0 rfl) rfl get2 ?_
    refine V_iald h 5 get5 (by omega) (dk dd_X12_meets_2 1 rfl) ?_
    refine V_iload_n h (dk dd_X12_meets_2 2 rfl) rfl get3 ?_
    refine V_callS h st2 ci_X12_177 pk_n rfl (m_X12_tilted l G _ _ (q.2.1) (by omega)) rfl rfl (Nat.le_of_ble_eq_true rfl) (by decide) ⟨rfl, rfl, rfl⟩ (dk dd_X12_meets_2 3 rfl) sk1 sm_n ?_
    refine V_if_eq (tgt := 248) h (dk dd_X12_meets_2 4 rfl) rfl (by omega) (fun c188 => ?_) (fun c188 => ?_)
    · refine V_vret h hF (dk dd_X12_meets_2 37 rfl) ⟨Nat.le_of_ble_eq_true rfl, Nat.le_of_ble_eq_true rfl⟩ ?_
      first
        | exact det_v (by rw [actM_0 hs0])
        | exact det_v (by rw [actM_1 hs0])
        | exact det_v (by rw [actM_2 hs0, if_pos c111, if_pos c111])
        | exact det_v (by rw [actM_2 hs0, if_neg c111, if_neg c111])
        | exact det_v (by rw [actM_3 hs0, spM_f (by omega)])
        | (have h9 : ¬ rm < 100 := by omega
           exact det_v (by rw [actM_3 hs0, spM_t (by omega)]; unfold bgM bgZ; simp only [if_neg h9]))
        | (have h9 : rm < 100 := by omega
           exact det_v (by rw [actM_3 hs0, spM_t (by omega)]; unfold bgM bgZ; simp only [if_pos h9]))
        | exact det_v (by rw [actM_4 hs0])
    · refine V_iload h (dk dd_X12_meets_2 5 rfl) get4 ?_
      refine V_aload_n h (dk dd_X12_meets_2 6 rfl) rfl get0 ?_
      refine V_get h fl_X12_7 0 get0 get0 (dk dd_X12_meets_2 7 rfl) ?_
      refine V_iconst h (dk dd_X12_meets_2 8 rfl) ?_
      refine V_iald h 1 get1 (by omega) (dk dd_X12_meets_2 9 rfl) ?_
      refine V_icmp_lt (tgt := 248) h (dk dd_X12_meets_2 10 rfl) rfl (by omega) (fun c199 => ?_) (fun c199 => ?_)
      · refine V_vret h hF (dk dd_X12_meets_2 37 rfl) ⟨Nat.le_of_ble_eq_true rfl, Nat.le_of_ble_eq_true rfl⟩ ?_
        first
          | exact det_v (by rw [actM_0 hs0])
          | exact det_v (by rw [actM_1 hs0])
          | exact det_v (by rw [actM_2 hs0, if_pos c111, if_pos c111])
          | exact det_v (by rw [actM_2 hs0, if_neg c111, if_neg c111])
          | exact det_v (by rw [actM_3 hs0, spM_f (by omega)])
          | (have h9 : ¬ rm < 100 := by omega
             exact det_v (by rw [actM_3 hs0, spM_t (by omega)]; unfold bgM bgZ; simp only [if_neg h9]))
          | (have h9 : rm < 100 := by omega
             exact det_v (by rw [actM_3 hs0, spM_t (by omega)]; unfold bgM bgZ; simp only [if_pos h9]))
          | exact det_v (by rw [actM_4 hs0])
      · refine V_aload_n h (dk dd_X12_meets_2 11 rfl) rfl get0 ?_
        refine V_get h fl_X12_169 0 get0 get15 (dk dd_X12_meets_2 12 rfl) ?_
        refine V_bipush h (dk dd_X12_meets_2 13 rfl) (by decide) ?_
        refine V_icmp_ge (tgt := 248) h (dk dd_X12_meets_2 14 rfl) rfl (by omega) (fun c208 => ?_) (fun c208 => ?_)
        · refine V_vret h hF (dk dd_X12_meets_2 37 rfl) ⟨Nat.le_of_ble_eq_true rfl, Nat.le_of_ble_eq_true rfl⟩ ?_
          first
            | exact det_v (by rw [actM_0 hs0])
            | exact det_v (by rw [actM_1 hs0])
            | exact det_v (by rw [actM_2 hs0, if_pos c111, if_pos c111])
            | exact det_v (by rw [actM_2 hs0, if_neg c111, if_neg c111])
            | exact det_v (by rw [actM_3 hs0, spM_f (by omega)])
            | (have h9 : ¬ rm < 100 := by omega
               exact det_v (by rw [actM_3 hs0, spM_t (by omega)]; unfold bgM bgZ; simp only [if_neg h9]))
            | (have h9 : rm < 100 := by omega
               exact det_v (by rw [actM_3 hs0, spM_t (by omega)]; unfold bgM bgZ; simp only [if_pos h9]))
            | exact det_v (by rw [actM_4 hs0])
        · refine V_aload_n h (dk dd_X12_meets_2 15 rfl) rfl get0 ?_
          refine V_aload_n h (dk dd_X12_meets_2 16 rfl) rfl get0 ?_
          refine V_get h fl_X12_25 0 get0 get10 (dk dd_X12_meets_2 17 rfl) ?_
          refine V_iload_n h (dk dd_X12_meets_2 18 rfl) rfl get2 ?_
          refine V_iald h 2 get2 (by omega) (dk dd_X12_meets_2 19 rfl) ?_
          refine V_aload_n h (dk dd_X12_meets_2 20 rfl) rfl get0 ?_
          refine V_get h fl_X12_28 0 get0 get11 (dk dd_X12_meets_2 21 rfl) ?_
          refine V_iload_n h (dk dd_X12_meets_2 22 rfl) rfl get2 ?_
          refine V_lald h 3 get3 (by omega) (dk dd_X12_meets_2 23 rfl) ?_
          refine V_aload_n h (dk dd_X12_meets_2 24 rfl) rfl get0 ?_
          refine V_get h fl_X12_35 0 get0 get13 (dk dd_X12_meets_2 25 rfl) ?_
          refine V_iload_n h (dk dd_X12_meets_2 26 rfl) rfl get2 ?_
          refine V_iald h 5 get5 (by omega) (dk dd_X12_meets_2 27 rfl) ?_
          refine V_iload_n h (dk dd_X12_meets_2 28 rfl) rfl get3 ?_
          refine V_callS h st2 ci_X12_177 pk_n rfl (m_X12_tilted l G _ _ (q.2.1) (by omega)) rfl rfl (Nat.le_of_ble_eq_true rfl) (by decide) ⟨rfl, rfl, rfl⟩ (dk dd_X12_meets_2 29 rfl) sk1 sm_n ?_
          refine V_iload h (dk dd_X12_meets_2 30 rfl) get4 ?_
          refine V_callV h st5 ci_X12_180 (pk_c get0 (pk_c get2 (pk_c get3 (pk_c get4 (pk_c get5 (pk_c get6 pk_n)))))) rfl 0 get0 rfl (m_X12_begins l G _ _ _ _ _ _ _ _ _ _ _ _ _ _ _ _ _ _ _ _ (by omega)) rfl rfl (Nat.le_of_ble_eq_true rfl) (by decide) ⟨rfl, rfl, rfl⟩ (dk dd_X12_meets_2 31 rfl) sk0 (sm_c set0 (sm_c set2 (sm_c set3 (sm_c set4 (sm_c set5 (sm_c set6 sm_n)))))) ?_
          refine V_goto (tgt := 248) h (dk dd_X12_meets_2 32 rfl) rfl ?_
          refine V_vret h hF (dk dd_X12_meets_2 37 rfl) ⟨Nat.le_of_ble_eq_true rfl, Nat.le_of_ble_eq_true rfl⟩ ?_
          first
            | exact det_v (by rw [actM_0 hs0])
            | exact det_v (by rw [actM_1 hs0])
            | exact det_v (by rw [actM_2 hs0, if_pos c111, if_pos c111])
            | exact det_v (by rw [actM_2 hs0, if_neg c111, if_neg c111])
            | exact det_v (by rw [actM_3 hs0, spM_f (by omega)])
            | (have h9 : ¬ rm < 100 := by omega
               exact det_v (by rw [actM_3 hs0, spM_t (by omega)]; unfold bgM bgZ; simp only [if_neg h9]))
            | (have h9 : rm < 100 := by omega
               exact det_v (by rw [actM_3 hs0, spM_t (by omega)]; unfold bgM bgZ; simp only [if_pos h9]))
            | exact det_v (by rw [actM_4 hs0])
  · refine V_tsO (tgt := 242) h (dk dd_X12_meets_0 19 rfl) (by omega) rfl ?_
    refine V_aload_n h (dk dd_X12_meets_2 33 rfl) rfl get0 ?_
    refine V_iload_n h (dk dd_X12_meets_2 34 rfl) rfl get1 ?_
    refine V_iload_n h (dk dd_X12_meets_2 35 rfl) rfl get2 ?_
    refine V_callV h st3 ci_X12_184 (pk_c get0 (pk_c get3 (pk_c get4 (pk_c get7 (pk_c get8 (pk_c get9 (pk_c get10 (pk_c get11 pk_n)))))))) rfl 0 get0 rfl (m_X12_hears l G _ _ _ _ _ _ _ _ _ _ _ _ _ _ _ _ _ _ _ _ (by omega) (by omega) (by omega) (by omega) (by omega) (by omega)) rfl rfl (Nat.le_of_ble_eq_true rfl) (by decide) ⟨rfl, rfl, rfl⟩ (dk dd_X12_meets_2 36 rfl) sk0 (sm_c set0 (sm_c set3 (sm_c set4 (sm_c set7 (sm_c set8 (sm_c set9 (sm_c set10 (sm_c set11 sm_n)))))))) ?_
    refine V_vret h hF (dk dd_X12_meets_2 37 rfl) ⟨Nat.le_of_ble_eq_true rfl, Nat.le_of_ble_eq_true rfl⟩ ?_
    first
      | exact det_v (by rw [actM_0 hs0])
      | exact det_v (by rw [actM_1 hs0])
      | exact det_v (by rw [actM_2 hs0, if_pos c111, if_pos c111])
      | exact det_v (by rw [actM_2 hs0, if_neg c111, if_neg c111])
      | exact det_v (by rw [actM_3 hs0, spM_f (by omega)])
      | (have h9 : ¬ rm < 100 := by omega
         exact det_v (by rw [actM_3 hs0, spM_t (by omega)]; unfold bgM bgZ; simp only [if_neg h9]))
      | (have h9 : rm < 100 := by omega
         exact det_v (by rw [actM_3 hs0, spM_t (by omega)]; unfold bgM bgZ; simp only [if_pos h9]))
      | exact det_v (by rw [actM_4 hs0])

