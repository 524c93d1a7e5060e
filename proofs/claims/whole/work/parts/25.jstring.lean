/-! the JDK's String, as far as it is reached -/
set_option maxHeartbeats 4000000 in
set_option maxRecDepth 100000 in
theorem m_J3_checkIndex_8e157 (l : Launch) (G : GT) (x n : Int) (r : Nat) (hn : R32 n) (hx : 0 ≤ x ∧ x < n) : Ctr l G yJ3_checkIndex_8e157 cJ3_checkIndex_8e157 3 (Option.some FieldType.int) (rmO 0 0 0 0) [.int (iZ x), .int (iZ n), .ref r] [] (Det (some (.int (iZ x))) []) := by
  refine Ctr.go (own := RJ3) (nm := "checkIndex") (by decide +kernel) rfl rfl [some (.int (iZ x)), some (.int (iZ n)), some (.ref r)] 0 rfl rfl (Nat.le_of_ble_eq_true rfl) ?_
  intro K h hF
  refine V_iload_n h (dk dd_J3_checkIndex_8e157_0 0 rfl) rfl get0 ?_
  refine V_if_lt (tgt := 9) h (dk dd_J3_checkIndex_8e157_0 1 rfl) rfl (by omega) (fun c1 => ?_) (fun c1 => ?_)
  · exfalso; omega
  · refine V_iload_n h (dk dd_J3_checkIndex_8e157_0 2 rfl) rfl get0 ?_
    refine V_iload_n h (dk dd_J3_checkIndex_8e157_0 3 rfl) rfl get1 ?_
    refine V_icmp_lt (tgt := 16) h (dk dd_J3_checkIndex_8e157_0 4 rfl) rfl (by omega) (fun c6 => ?_) (fun c6 => ?_)
    · refine V_iload_n h (dk dd_J3_checkIndex_8e157_0 10 rfl) rfl get0 ?_
      refine V_iret h hF (dk dd_J3_checkIndex_8e157_0 11 rfl) ⟨Nat.le_of_ble_eq_true rfl, Nat.le_of_ble_eq_true rfl⟩ ?_
      exact det_i (by first | rfl | omega) rfl
    · exfalso; omega

set_option maxHeartbeats 4000000 in
set_option maxRecDepth 100000 in
theorem m_J3_checkIndex_n (l : Launch) (G : GT) (x n : Int) (hn : R32 n) (hx : 0 ≤ x ∧ x < n) : Ctr l G yJ3_checkIndex_8e157 cJ3_checkIndex_8e157 3 (Option.some FieldType.int) (rmO 0 0 0 0) [.int (iZ x), .int (iZ n), .null] [] (Det (some (.int (iZ x))) []) := by
  refine Ctr.go (own := RJ3) (nm := "checkIndex") (by decide +kernel) rfl rfl [some (.int (iZ x)), some (.int (iZ n)), some (.null)] 0 rfl rfl (Nat.le_of_ble_eq_true rfl) ?_
  intro K h hF
  refine V_iload_n h (dk dd_J3_checkIndex_8e157_0 0 rfl) rfl get0 ?_
  refine V_if_lt (tgt := 9) h (dk dd_J3_checkIndex_8e157_0 1 rfl) rfl (by omega) (fun c1 => ?_) (fun c1 => ?_)
  · exfalso; omega
  · refine V_iload_n h (dk dd_J3_checkIndex_8e157_0 2 rfl) rfl get0 ?_
    refine V_iload_n h (dk dd_J3_checkIndex_8e157_0 3 rfl) rfl get1 ?_
    refine V_icmp_lt (tgt := 16) h (dk dd_J3_checkIndex_8e157_0 4 rfl) rfl (by omega) (fun c6 => ?_) (fun c6 => ?_)
    · refine V_iload_n h (dk dd_J3_checkIndex_8e157_0 10 rfl) rfl get0 ?_
      refine V_iret h hF (dk dd_J3_checkIndex_8e157_0 11 rfl) ⟨Nat.le_of_ble_eq_true rfl, Nat.le_of_ble_eq_true rfl⟩ ?_
      exact det_i (by first | rfl | omega) rfl
    · exfalso; omega

set_option maxHeartbeats 4000000 in
set_option maxRecDepth 100000 in
theorem m_J0_checkIndex_df160 (l : Launch) (G : GT) (ad : AdT) (x n : Int) (hn : R32 n) (hx : 0 ≤ x ∧ x < n) : CtrS l G ad yJ0_checkIndex_df160 cJ0_checkIndex_df160 2 none (rmO 1 0 0 22) [.int (iZ x), .int (iZ n)] [] (Det none []) := by
  refine CtrS.go (own := RJ0) (nm := "checkIndex") (by decide +kernel) rfl rfl [some (.int (iZ x)), some (.int (iZ n))] 0 rfl rfl (Nat.le_of_ble_eq_true rfl) ?_
  intro K h hF hSt
  refine V_iload_n h (dk dd_J0_checkIndex_df160_0 0 rfl) rfl get0 ?_
  refine V_iload_n h (dk dd_J0_checkIndex_df160_0 1 rfl) rfl get1 ?_
  rcases hSt.2.2.1 with hz | ⟨t9, hz⟩
  · refine V_getsZ h hz q2_170 (dk dd_J0_checkIndex_df160_0 2 rfl) ?_
    refine V_callS h st3 ci_J0_1059 pk_n rfl (m_J3_checkIndex_n l G _ _ (by omega) (by omega)) rfl rfl (Nat.le_of_ble_eq_true rfl) (by decide) ⟨rfl, rfl, rfl⟩ (dk dd_J0_checkIndex_df160_0 3 rfl) sk1 sm_n ?_
    refine V_pop h (dk dd_J0_checkIndex_df160_0 4 rfl) rfl ?_
    refine V_vret h hF (dk dd_J0_checkIndex_df160_0 5 rfl) ⟨Nat.le_of_ble_eq_true rfl, Nat.le_of_ble_eq_true rfl⟩ ?_
    exact det_v rfl
  · refine V_getsZ h hz q2_170 (dk dd_J0_checkIndex_df160_0 2 rfl) ?_
    refine V_callS h st3 ci_J0_1059 pk_n rfl (m_J3_checkIndex_8e157 l G _ _ _ (by omega) (by omega)) rfl rfl (Nat.le_of_ble_eq_true rfl) (by decide) ⟨rfl, rfl, rfl⟩ (dk dd_J0_checkIndex_df160_0 3 rfl) sk1 sm_n ?_
    refine V_pop h (dk dd_J0_checkIndex_df160_0 4 rfl) rfl ?_
    refine V_vret h hF (dk dd_J0_checkIndex_df160_0 5 rfl) ⟨Nat.le_of_ble_eq_true rfl, Nat.le_of_ble_eq_true rfl⟩ ?_
    exact det_v rfl

set_option maxHeartbeats 4000000 in
set_option maxRecDepth 100000 in
theorem m_J1_charAt_3b067 (l : Launch) (G : GT) (ad : AdT) (i x : Int) (hi : 0 ≤ i ∧ i < 5) (hx : 0 ≤ x ∧ x < sL i) : CtrS l G ad yJ1_charAt_3b067 cJ1_charAt_3b067 2 (Option.some FieldType.char) (rmO 2 0 0 43) [.ref (ad.2.1 i.toNat), .int (iZ x)] [] (Det (some (.int (iZ (sCh i x)))) []) := by
  refine CtrS.go (own := RJ1) (nm := "charAt") (by decide +kernel) rfl rfl [some (.ref (ad.2.1 i.toNat)), some (.int (iZ x))] 0 rfl rfl (Nat.le_of_ble_eq_true rfl) ?_
  intro K h hF hSt
  have hl := sL_R i
  have hc := sCh_R hi hx
  refine V_iload_n h (dk dd_J1_charAt_3b067_0 0 rfl) rfl get1 ?_
  refine V_aload_n h (dk dd_J1_charAt_3b067_0 1 rfl) rfl get0 ?_
  refine V_slen h hSt hi (dk dd_J1_charAt_3b067_0 2 rfl) ?_
  refine V_callSs h hSt st2 ci_J1_9 pk_n rfl (m_J0_checkIndex_df160 l G ad _ _ (by omega) (by omega)) rfl rfl (Nat.le_of_ble_eq_true rfl) (by decide) ⟨rfl, rfl, rfl⟩ (dk dd_J1_charAt_3b067_0 3 rfl) sk0 sm_n ?_
  refine V_aload_n h (dk dd_J1_charAt_3b067_0 4 rfl) rfl get0 ?_
  refine V_iload_n h (dk dd_J1_charAt_3b067_0 5 rfl) rfl get1 ?_
  refine V_sbld h hSt hi hx (dk dd_J1_charAt_3b067_0 6 rfl) ?_
  refine V_sipush h (dk dd_J1_charAt_3b067_0 7 rfl) (by decide) ?_
  refine V_iand h (dk dd_J1_charAt_3b067_0 8 rfl) ?_
  rw [iand_255 (by omega)]
  refine V_i2c h (dk dd_J1_charAt_3b067_0 9 rfl) (by omega) ?_
  refine V_cret h hF (dk dd_J1_charAt_3b067_0 10 rfl) ⟨Nat.le_of_ble_eq_true rfl, Nat.le_of_ble_eq_true rfl⟩ (nar_c (by omega)) ?_
  exact det_i (by first | rfl | omega) rfl

set_option maxHeartbeats 4000000 in
set_option maxRecDepth 100000 in
theorem m_J0_coder_7d493 (l : Launch) (G : GT) (ad : AdT) (i : Int) (hi : 0 ≤ i ∧ i < 5) : CtrS l G ad yJ0_coder_7d493 cJ0_coder_7d493 1 (Option.some FieldType.byte) (rmO 0 0 0 0) [.ref (ad.1 i.toNat)] [] (Det (some (.int (iZ 0))) []) := by
  refine CtrS.go (own := RJ0) (nm := "coder") (by decide +kernel) rfl rfl [some (.ref (ad.1 i.toNat))] 0 rfl rfl (Nat.le_of_ble_eq_true rfl) ?_
  intro K h hF hSt
  refine V_getsZ h hSt.2.1 q2_150 (dk dd_J0_coder_7d493_0 0 rfl) ?_
  refine V_if_eq (tgt := 13) h (dk dd_J0_coder_7d493_0 1 rfl) rfl (by omega) (fun c3 => ?_) (fun c3 => ?_)
  · exfalso; omega
  · refine V_aload_n h (dk dd_J0_coder_7d493_0 2 rfl) rfl get0 ?_
    refine V_getfS h (hSt.1.1 i.toNat (by omega)).2.1 q5_92 (dk dd_J0_coder_7d493_0 3 rfl) ?_
    rw [← iZ_0]
    refine V_goto (tgt := 14) h (dk dd_J0_coder_7d493_0 4 rfl) rfl ?_
    refine V_cret h hF (dk dd_J0_coder_7d493_0 6 rfl) ⟨Nat.le_of_ble_eq_true rfl, Nat.le_of_ble_eq_true rfl⟩ (by rw [iZ_0]; rfl) ?_
    exact det_i (by first | rfl | omega) rfl

set_option maxHeartbeats 4000000 in
set_option maxRecDepth 100000 in
theorem m_J0_isLatin1_aae02 (l : Launch) (G : GT) (ad : AdT) (i : Int) (hi : 0 ≤ i ∧ i < 5) : CtrS l G ad yJ0_isLatin1_aae02 cJ0_isLatin1_aae02 1 (Option.some FieldType.boolean) (rmO 0 0 0 0) [.ref (ad.1 i.toNat)] [] (Det (some (.int (iZ 1))) []) := by
  refine CtrS.go (own := RJ0) (nm := "isLatin1") (by decide +kernel) rfl rfl [some (.ref (ad.1 i.toNat))] 0 rfl rfl (Nat.le_of_ble_eq_true rfl) ?_
  intro K h hF hSt
  refine V_getsZ h hSt.2.1 q2_150 (dk dd_J0_isLatin1_aae02_0 0 rfl) ?_
  refine V_if_eq (tgt := 17) h (dk dd_J0_isLatin1_aae02_0 1 rfl) rfl (by omega) (fun c3 => ?_) (fun c3 => ?_)
  · exfalso; omega
  · refine V_aload_n h (dk dd_J0_isLatin1_aae02_0 2 rfl) rfl get0 ?_
    refine V_getfS h (hSt.1.1 i.toNat (by omega)).2.1 q5_92 (dk dd_J0_isLatin1_aae02_0 3 rfl) ?_
    rw [← iZ_0]
    refine V_if_ne (tgt := 17) h (dk dd_J0_isLatin1_aae02_0 4 rfl) rfl (by omega) (fun c10 => ?_) (fun c10 => ?_)
    · exfalso; omega
    · refine V_iconst h (dk dd_J0_isLatin1_aae02_0 5 rfl) ?_
      refine V_goto (tgt := 18) h (dk dd_J0_isLatin1_aae02_0 6 rfl) rfl ?_
      refine V_zret h hF (dk dd_J0_isLatin1_aae02_0 8 rfl) ⟨Nat.le_of_ble_eq_true rfl, Nat.le_of_ble_eq_true rfl⟩ (by first | exact Or.inr rfl | exact Or.inl rfl | exact bZ_01 | omega) ?_
      exact det_i (by first | exact (bZ_t (by omega)).symm | exact (bZ_f (by omega)).symm | rfl) rfl

set_option maxHeartbeats 4000000 in
set_option maxRecDepth 100000 in
theorem m_J0_length_8abf5 (l : Launch) (G : GT) (ad : AdT) (i : Int) (hi : 0 ≤ i ∧ i < 5) : CtrS l G ad yJ0_length_8abf5 cJ0_length_8abf5 1 (Option.some FieldType.int) (rmO 1 0 0 20) [.ref (ad.1 i.toNat)] [] (Det (some (.int (iZ (sL i)))) []) := by
  refine CtrS.go (own := RJ0) (nm := "length") (by decide +kernel) rfl rfl [some (.ref (ad.1 i.toNat))] 0 rfl rfl (Nat.le_of_ble_eq_true rfl) ?_
  intro K h hF hSt
  refine V_aload_n h (dk dd_J0_length_8abf5_0 0 rfl) rfl get0 ?_
  refine V_getfS h (hSt.1.1 i.toNat (by omega)).2.2.1 q5_91 (dk dd_J0_length_8abf5_0 1 rfl) ?_
  refine V_slen h hSt hi (dk dd_J0_length_8abf5_0 2 rfl) ?_
  refine V_aload_n h (dk dd_J0_length_8abf5_0 3 rfl) rfl get0 ?_
  refine V_callVt h hSt (i.toNat) (by omega) st1 ci_J0_335 rfl (m_J0_coder_7d493 l G ad _ (hi)) rfl rfl (Nat.le_of_ble_eq_true rfl) (by decide) ⟨rfl, rfl, rfl⟩ (dk dd_J0_length_8abf5_0 4 rfl) sk1 ?_
  refine V_ishr0 h (dk dd_J0_length_8abf5_0 5 rfl) ?_
  refine V_iret h hF (dk dd_J0_length_8abf5_0 6 rfl) ⟨Nat.le_of_ble_eq_true rfl, Nat.le_of_ble_eq_true rfl⟩ ?_
  exact det_i (by first | rfl | omega) rfl

set_option maxHeartbeats 4000000 in
set_option maxRecDepth 100000 in
theorem m_J0_charAt_5068e (l : Launch) (G : GT) (ad : AdT) (i x : Int) (hi : 0 ≤ i ∧ i < 5) (hx : 0 ≤ x ∧ x < sL i) : CtrS l G ad yJ0_charAt_5068e cJ0_charAt_5068e 2 (Option.some FieldType.char) (rmO 4 0 0 85) [.ref (ad.1 i.toNat), .int (iZ x)] [] (Det (some (.int (iZ (sCh i x)))) []) := by
  refine CtrS.go (own := RJ0) (nm := "charAt") (by decide +kernel) rfl rfl [some (.ref (ad.1 i.toNat)), some (.int (iZ x))] 0 rfl rfl (Nat.le_of_ble_eq_true rfl) ?_
  intro K h hF hSt
  have hc := sCh_R hi hx
  refine V_aload_n h (dk dd_J0_charAt_5068e_0 0 rfl) rfl get0 ?_
  refine V_callVt h hSt (i.toNat) (by omega) st1 ci_J0_492 rfl (m_J0_isLatin1_aae02 l G ad _ (hi)) rfl rfl (Nat.le_of_ble_eq_true rfl) (by decide) ⟨rfl, rfl, rfl⟩ (dk dd_J0_charAt_5068e_0 1 rfl) sk1 ?_
  refine V_if_eq (tgt := 16) h (dk dd_J0_charAt_5068e_0 2 rfl) rfl (by omega) (fun c4 => ?_) (fun c4 => ?_)
  · exfalso; omega
  · refine V_aload_n h (dk dd_J0_charAt_5068e_0 3 rfl) rfl get0 ?_
    refine V_getfS h (hSt.1.1 i.toNat (by omega)).2.2.1 q5_91 (dk dd_J0_charAt_5068e_0 4 rfl) ?_
    refine V_iload_n h (dk dd_J0_charAt_5068e_0 5 rfl) rfl get1 ?_
    refine V_callSs h hSt st2 ci_J0_495 pk_n rfl (m_J1_charAt_3b067 l G ad _ _ (hi) (hx)) rfl rfl (Nat.le_of_ble_eq_true rfl) (by decide) ⟨rfl, rfl, rfl⟩ (dk dd_J0_charAt_5068e_0 6 rfl) sk1 sm_n ?_
    refine V_cret h hF (dk dd_J0_charAt_5068e_0 7 rfl) ⟨Nat.le_of_ble_eq_true rfl, Nat.le_of_ble_eq_true rfl⟩ (nar_c (by omega)) ?_
    exact det_i (by first | rfl | omega) rfl

set_option maxHeartbeats 4000000 in
set_option maxRecDepth 100000 in
theorem m_X4_word (l : Launch) (G : GT) (ad : AdT) (k : Int) (hk : 0 ≤ k ∧ k ≤ 4) : CtrS l G ad yX4_word cX4_word 1 (Option.some (FieldType.object "java/lang/String")) (rmO 0 0 0 0) [.int (iZ k)] [] (Det (some (.ref (ad.1 k.toNat))) []) := by
  refine CtrS.go (own := RX4) (nm := "word") (by decide +kernel) rfl rfl [some (.int (iZ k))] 0 rfl rfl (Nat.le_of_ble_eq_true rfl) ?_
  intro K h hF hSt
  refine V_iload_n h (dk dd_X4_word_0 0 rfl) rfl get0 ?_
  rcases (show k = 0 ∨ k = 1 ∨ k = 2 ∨ k = 3 ∨ k = 4 from (by omega)) with hs0 | hs0 | hs0 | hs0 | hs0
  · refine V_tsI (tgt := 32) (v := 0) h (dk dd_X4_word_0 1 rfl) (by omega) rfl rfl ?_
    refine V_ldcS h hSt.2.2.2.1 (dk dd_X4_word_0 2 rfl) ?_
    refine V_aret h hF (dk dd_X4_word_0 3 rfl) ⟨Nat.le_of_ble_eq_true rfl, Nat.le_of_ble_eq_true rfl⟩ ?_
    subst hs0
    exact ⟨rfl, rfl⟩
  · refine V_tsI (tgt := 35) (v := 1) h (dk dd_X4_word_0 1 rfl) (by omega) rfl rfl ?_
    refine V_ldcS h hSt.2.2.2.2.1 (dk dd_X4_word_0 4 rfl) ?_
    refine V_aret h hF (dk dd_X4_word_0 5 rfl) ⟨Nat.le_of_ble_eq_true rfl, Nat.le_of_ble_eq_true rfl⟩ ?_
    subst hs0
    exact ⟨rfl, rfl⟩
  · refine V_tsI (tgt := 38) (v := 2) h (dk dd_X4_word_0 1 rfl) (by omega) rfl rfl ?_
    refine V_ldcS h hSt.2.2.2.2.2.1 (dk dd_X4_word_0 6 rfl) ?_
    refine V_aret h hF (dk dd_X4_word_0 7 rfl) ⟨Nat.le_of_ble_eq_true rfl, Nat.le_of_ble_eq_true rfl⟩ ?_
    subst hs0
    exact ⟨rfl, rfl⟩
  · refine V_tsI (tgt := 41) (v := 3) h (dk dd_X4_word_0 1 rfl) (by omega) rfl rfl ?_
    refine V_ldcS h hSt.2.2.2.2.2.2.1 (dk dd_X4_word_0 8 rfl) ?_
    refine V_aret h hF (dk dd_X4_word_0 9 rfl) ⟨Nat.le_of_ble_eq_true rfl, Nat.le_of_ble_eq_true rfl⟩ ?_
    subst hs0
    exact ⟨rfl, rfl⟩
  · refine V_tsO (tgt := 44) h (dk dd_X4_word_0 1 rfl) (by omega) rfl ?_
    refine V_ldcS h hSt.2.2.2.2.2.2.2 (dk dd_X4_word_0 10 rfl) ?_
    refine V_aret h hF (dk dd_X4_word_0 11 rfl) ⟨Nat.le_of_ble_eq_true rfl, Nat.le_of_ble_eq_true rfl⟩ ?_
    subst hs0
    exact ⟨rfl, rfl⟩

