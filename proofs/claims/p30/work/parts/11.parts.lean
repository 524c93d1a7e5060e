/-! Parts, Wall, History -/
set_option maxHeartbeats 4000000 in
set_option maxRecDepth 100000 in
theorem m_X4_mayBeNegative (l : Launch) (G : GT) (a : Int) (ha : R32 a) : Ctr l G yX4_mayBeNegative cX4_mayBeNegative 1 (Option.some FieldType.boolean) (rmO 0 0 0 0) [.int (iZ a)] [] (Det (some (.int (iZ (bZ (a = 2 ∨ a = 3))))) []) := by
  refine Ctr.go (own := RX4) (nm := "mayBeNegative") (by decide +kernel) rfl rfl [some (.int (iZ a))] 0 rfl rfl (Nat.le_of_ble_eq_true rfl) ?_
  intro K h hF
  refine V_iload_n h (dk dd_X4_mayBeNegative_0 0 rfl) rfl get0 ?_
  refine V_iconst h (dk dd_X4_mayBeNegative_0 1 rfl) ?_
  refine V_icmp_eq (tgt := 10) h (dk dd_X4_mayBeNegative_0 2 rfl) rfl (by omega) (fun c2 => ?_) (fun c2 => ?_)
  · refine V_iconst h (dk dd_X4_mayBeNegative_0 6 rfl) ?_
    refine V_goto (tgt := 15) h (dk dd_X4_mayBeNegative_0 7 rfl) rfl ?_
    refine V_zret h hF (dk dd_X4_mayBeNegative_0 9 rfl) ⟨Nat.le_of_ble_eq_true rfl, Nat.le_of_ble_eq_true rfl⟩ (by first | exact Or.inr rfl | exact Or.inl rfl | exact bZ_01 | omega) ?_
    exact det_i (by first | exact (bZ_t (by omega)).symm | exact (bZ_f (by omega)).symm | rfl) rfl
  · refine V_iload_n h (dk dd_X4_mayBeNegative_0 3 rfl) rfl get0 ?_
    refine V_iconst h (dk dd_X4_mayBeNegative_0 4 rfl) ?_
    refine V_icmp_ne (tgt := 14) h (dk dd_X4_mayBeNegative_0 5 rfl) rfl (by omega) (fun c7 => ?_) (fun c7 => ?_)
    · refine V_iconst h (dk dd_X4_mayBeNegative_0 8 rfl) ?_
      refine V_zret h hF (dk dd_X4_mayBeNegative_0 9 rfl) ⟨Nat.le_of_ble_eq_true rfl, Nat.le_of_ble_eq_true rfl⟩ (by first | exact Or.inr rfl | exact Or.inl rfl | exact bZ_01 | omega) ?_
      exact det_i (by first | exact (bZ_t (by omega)).symm | exact (bZ_f (by omega)).symm | rfl) rfl
    · refine V_iconst h (dk dd_X4_mayBeNegative_0 6 rfl) ?_
      refine V_goto (tgt := 15) h (dk dd_X4_mayBeNegative_0 7 rfl) rfl ?_
      refine V_zret h hF (dk dd_X4_mayBeNegative_0 9 rfl) ⟨Nat.le_of_ble_eq_true rfl, Nat.le_of_ble_eq_true rfl⟩ (by first | exact Or.inr rfl | exact Or.inl rfl | exact bZ_01 | omega) ?_
      exact det_i (by first | exact (bZ_t (by omega)).symm | exact (bZ_f (by omega)).symm | rfl) rfl

set_option maxHeartbeats 4000000 in
set_option maxRecDepth 100000 in
theorem m_X4_leastBy (l : Launch) (G : GT) (a : Int) (ha : R32 a) : Ctr l G yX4_leastBy cX4_leastBy 1 (Option.some FieldType.int) (rmO 1 0 0 20) [.int (iZ a)] [] (Det (some (.int (iZ (leastF a)))) []) := by
  refine Ctr.go (own := RX4) (nm := "leastBy") (by decide +kernel) rfl rfl [some (.int (iZ a))] 0 rfl rfl (Nat.le_of_ble_eq_true rfl) ?_
  intro K h hF
  refine V_iload_n h (dk dd_X4_leastBy_0 0 rfl) rfl get0 ?_
  refine V_callS h st1 ci_X4_28 pk_n rfl (m_X4_mayBeNegative l G _ (by omega)) rfl rfl (Nat.le_of_ble_eq_true rfl) (by decide) ⟨rfl, rfl, rfl⟩ (dk dd_X4_leastBy_0 1 rfl) sk1 sm_n ?_
  refine V_ifz_eq (tgt := 13) h (dk dd_X4_leastBy_0 2 rfl) rfl (fun c4 => ?_) (fun c4 => ?_)
  · refine V_iconst h (dk dd_X4_leastBy_0 5 rfl) ?_
    refine V_iret h hF (dk dd_X4_leastBy_0 6 rfl) ⟨Nat.le_of_ble_eq_true rfl, Nat.le_of_ble_eq_true rfl⟩ ?_
    exact det_i (by unfold leastF; split <;> omega) rfl
  · refine V_sipush h (dk dd_X4_leastBy_0 3 rfl) (by decide) ?_
    refine V_goto (tgt := 14) h (dk dd_X4_leastBy_0 4 rfl) rfl ?_
    refine V_iret h hF (dk dd_X4_leastBy_0 6 rfl) ⟨Nat.le_of_ble_eq_true rfl, Nat.le_of_ble_eq_true rfl⟩ ?_
    exact det_i (by unfold leastF; split <;> omega) rfl

set_option maxHeartbeats 4000000 in
set_option maxRecDepth 100000 in
theorem m_X4_mostBy (l : Launch) (G : GT) (a : Int) (ha : R32 a) : Ctr l G yX4_mostBy cX4_mostBy 1 (Option.some FieldType.int) (rmO 1 0 0 20) [.int (iZ a)] [] (Det (some (.int (iZ (mostF a)))) []) := by
  refine Ctr.go (own := RX4) (nm := "mostBy") (by decide +kernel) rfl rfl [some (.int (iZ a))] 0 rfl rfl (Nat.le_of_ble_eq_true rfl) ?_
  intro K h hF
  refine V_iload_n h (dk dd_X4_mostBy_0 0 rfl) rfl get0 ?_
  refine V_callS h st1 ci_X4_28 pk_n rfl (m_X4_mayBeNegative l G _ (by omega)) rfl rfl (Nat.le_of_ble_eq_true rfl) (by decide) ⟨rfl, rfl, rfl⟩ (dk dd_X4_mostBy_0 1 rfl) sk1 sm_n ?_
  refine V_ifz_eq (tgt := 11) h (dk dd_X4_mostBy_0 2 rfl) rfl (fun c4 => ?_) (fun c4 => ?_)
  · refine V_iload_n h (dk dd_X4_mostBy_0 5 rfl) rfl get0 ?_
    refine V_if_ne (tgt := 21) h (dk dd_X4_mostBy_0 6 rfl) rfl (by omega) (fun c12 => ?_) (fun c12 => ?_)
    · refine V_iconst h (dk dd_X4_mostBy_0 9 rfl) ?_
      refine V_iret h hF (dk dd_X4_mostBy_0 10 rfl) ⟨Nat.le_of_ble_eq_true rfl, Nat.le_of_ble_eq_true rfl⟩ ?_
      exact det_i (by unfold mostF; split <;> (try split) <;> omega) rfl
    · refine V_sipush h (dk dd_X4_mostBy_0 7 rfl) (by decide) ?_
      refine V_goto (tgt := 22) h (dk dd_X4_mostBy_0 8 rfl) rfl ?_
      refine V_iret h hF (dk dd_X4_mostBy_0 10 rfl) ⟨Nat.le_of_ble_eq_true rfl, Nat.le_of_ble_eq_true rfl⟩ ?_
      exact det_i (by unfold mostF; split <;> (try split) <;> omega) rfl
  · refine V_sipush h (dk dd_X4_mostBy_0 3 rfl) (by decide) ?_
    refine V_iret h hF (dk dd_X4_mostBy_0 4 rfl) ⟨Nat.le_of_ble_eq_true rfl, Nat.le_of_ble_eq_true rfl⟩ ?_
    exact det_i (by unfold mostF; split <;> (try split) <;> omega) rfl

set_option maxHeartbeats 4000000 in
set_option maxRecDepth 100000 in
theorem m_X4_isAllowed (l : Launch) (G : GT) (a b c d : Int) (ha : R32 a) (hb : R32 b) (hc : R32 c) (hd : R32 d) : Ctr l G yX4_isAllowed cX4_isAllowed 4 (Option.some FieldType.boolean) (rmO 2 0 0 40) [.int (iZ a), .int (iZ b), .int (iZ c), .int (iZ d)] [] (Det (some (.int (iZ (bZ (allowP a b c d))))) []) := by
  refine Ctr.go (own := RX4) (nm := "isAllowed") (by decide +kernel) rfl rfl [some (.int (iZ a)), some (.int (iZ b)), some (.int (iZ c)), some (.int (iZ d))] 0 rfl rfl (Nat.le_of_ble_eq_true rfl) ?_
  intro K h hF
  have q1 := least_R a
  have q2 := most_R a
  refine V_iload_n h (dk dd_X4_isAllowed_0 0 rfl) rfl get0 ?_
  refine V_if_lt (tgt := 48) h (dk dd_X4_isAllowed_0 1 rfl) rfl (by omega) (fun c1 => ?_) (fun c1 => ?_)
  · refine V_iconst h (dk dd_X4_isAllowed_0 24 rfl) ?_
    refine V_zret h hF (dk dd_X4_isAllowed_0 25 rfl) ⟨Nat.le_of_ble_eq_true rfl, Nat.le_of_ble_eq_true rfl⟩ (by first | exact Or.inr rfl | exact Or.inl rfl | exact bZ_01 | omega) ?_
    exact det_i (by first | exact (bZ_t (by omega)).symm | exact (bZ_f (by omega)).symm | rfl) rfl
  · refine V_iload_n h (dk dd_X4_isAllowed_0 2 rfl) rfl get0 ?_
    refine V_iconst h (dk dd_X4_isAllowed_0 3 rfl) ?_
    refine V_icmp_gt (tgt := 48) h (dk dd_X4_isAllowed_0 4 rfl) rfl (by omega) (fun c6 => ?_) (fun c6 => ?_)
    · refine V_iconst h (dk dd_X4_isAllowed_0 24 rfl) ?_
      refine V_zret h hF (dk dd_X4_isAllowed_0 25 rfl) ⟨Nat.le_of_ble_eq_true rfl, Nat.le_of_ble_eq_true rfl⟩ (by first | exact Or.inr rfl | exact Or.inl rfl | exact bZ_01 | omega) ?_
      exact det_i (by first | exact (bZ_t (by omega)).symm | exact (bZ_f (by omega)).symm | rfl) rfl
    · refine V_iload_n h (dk dd_X4_isAllowed_0 5 rfl) rfl get1 ?_
      refine V_callS h st1 ci_X4_15 pk_n rfl (m_X0_isPlace l G _ (by omega)) rfl rfl (Nat.le_of_ble_eq_true rfl) (by decide) ⟨rfl, rfl, rfl⟩ (dk dd_X4_isAllowed_0 6 rfl) sk1 sm_n ?_
      refine V_ifz_eq (tgt := 48) h (dk dd_X4_isAllowed_0 7 rfl) rfl (fun c13 => ?_) (fun c13 => ?_)
      · refine V_iconst h (dk dd_X4_isAllowed_0 24 rfl) ?_
        refine V_zret h hF (dk dd_X4_isAllowed_0 25 rfl) ⟨Nat.le_of_ble_eq_true rfl, Nat.le_of_ble_eq_true rfl⟩ (by first | exact Or.inr rfl | exact Or.inl rfl | exact bZ_01 | omega) ?_
        exact det_i (by first | exact (bZ_t (by omega)).symm | exact (bZ_f (by omega)).symm | rfl) rfl
      · refine V_iload_n h (dk dd_X4_isAllowed_0 8 rfl) rfl get2 ?_
        refine V_iconst h (dk dd_X4_isAllowed_0 9 rfl) ?_
        refine V_icmp_lt (tgt := 48) h (dk dd_X4_isAllowed_0 10 rfl) rfl (by omega) (fun c18 => ?_) (fun c18 => ?_)
        · refine V_iconst h (dk dd_X4_isAllowed_0 24 rfl) ?_
          refine V_zret h hF (dk dd_X4_isAllowed_0 25 rfl) ⟨Nat.le_of_ble_eq_true rfl, Nat.le_of_ble_eq_true rfl⟩ (by first | exact Or.inr rfl | exact Or.inl rfl | exact bZ_01 | omega) ?_
          exact det_i (by first | exact (bZ_t (by omega)).symm | exact (bZ_f (by omega)).symm | rfl) rfl
        · refine V_iload_n h (dk dd_X4_isAllowed_0 11 rfl) rfl get2 ?_
          refine V_sipush h (dk dd_X4_isAllowed_0 12 rfl) (by decide) ?_
          refine V_icmp_gt (tgt := 48) h (dk dd_X4_isAllowed_0 13 rfl) rfl (by omega) (fun c25 => ?_) (fun c25 => ?_)
          · refine V_iconst h (dk dd_X4_isAllowed_0 24 rfl) ?_
            refine V_zret h hF (dk dd_X4_isAllowed_0 25 rfl) ⟨Nat.le_of_ble_eq_true rfl, Nat.le_of_ble_eq_true rfl⟩ (by first | exact Or.inr rfl | exact Or.inl rfl | exact bZ_01 | omega) ?_
            exact det_i (by first | exact (bZ_t (by omega)).symm | exact (bZ_f (by omega)).symm | rfl) rfl
          · refine V_iload_n h (dk dd_X4_isAllowed_0 14 rfl) rfl get3 ?_
            refine V_iload_n h (dk dd_X4_isAllowed_0 15 rfl) rfl get0 ?_
            refine V_callS h st1 ci_X4_21 pk_n rfl (m_X4_leastBy l G _ (by omega)) rfl rfl (Nat.le_of_ble_eq_true rfl) (by decide) ⟨rfl, rfl, rfl⟩ (dk dd_X4_isAllowed_0 16 rfl) sk1 sm_n ?_
            refine V_icmp_lt (tgt := 48) h (dk dd_X4_isAllowed_0 17 rfl) rfl (by omega) (fun c33 => ?_) (fun c33 => ?_)
            · refine V_iconst h (dk dd_X4_isAllowed_0 24 rfl) ?_
              refine V_zret h hF (dk dd_X4_isAllowed_0 25 rfl) ⟨Nat.le_of_ble_eq_true rfl, Nat.le_of_ble_eq_true rfl⟩ (by first | exact Or.inr rfl | exact Or.inl rfl | exact bZ_01 | omega) ?_
              exact det_i (by first | exact (bZ_t (by omega)).symm | exact (bZ_f (by omega)).symm | rfl) rfl
            · refine V_iload_n h (dk dd_X4_isAllowed_0 18 rfl) rfl get3 ?_
              refine V_iload_n h (dk dd_X4_isAllowed_0 19 rfl) rfl get0 ?_
              refine V_callS h st1 ci_X4_25 pk_n rfl (m_X4_mostBy l G _ (by omega)) rfl rfl (Nat.le_of_ble_eq_true rfl) (by decide) ⟨rfl, rfl, rfl⟩ (dk dd_X4_isAllowed_0 20 rfl) sk1 sm_n ?_
              refine V_icmp_gt (tgt := 48) h (dk dd_X4_isAllowed_0 21 rfl) rfl (by omega) (fun c41 => ?_) (fun c41 => ?_)
              · refine V_iconst h (dk dd_X4_isAllowed_0 24 rfl) ?_
                refine V_zret h hF (dk dd_X4_isAllowed_0 25 rfl) ⟨Nat.le_of_ble_eq_true rfl, Nat.le_of_ble_eq_true rfl⟩ (by first | exact Or.inr rfl | exact Or.inl rfl | exact bZ_01 | omega) ?_
                exact det_i (by first | exact (bZ_t (by omega)).symm | exact (bZ_f (by omega)).symm | rfl) rfl
              · refine V_iconst h (dk dd_X4_isAllowed_0 22 rfl) ?_
                refine V_goto (tgt := 49) h (dk dd_X4_isAllowed_0 23 rfl) rfl ?_
                refine V_zret h hF (dk dd_X4_isAllowed_0 25 rfl) ⟨Nat.le_of_ble_eq_true rfl, Nat.le_of_ble_eq_true rfl⟩ (by first | exact Or.inr rfl | exact Or.inl rfl | exact bZ_01 | omega) ?_
                exact det_i (by first | exact (bZ_t (by omega)).symm | exact (bZ_f (by omega)).symm | rfl) rfl

set_option maxHeartbeats 4000000 in
set_option maxRecDepth 100000 in
theorem m_X4_has (l : Launch) (G : GT) (a b : Nat) (n : Int) (f : Int → Int) (x : Int) (hn : 0 ≤ n ∧ n ≤ 12) (hx : R32 x) : Ctr l G yX4_has cX4_has 2 (Option.some FieldType.boolean) (rmO 0 0 0 0) [.ref a, .int (iZ x)] [(a, .inr (3, [.ref b, .int (iZ n)])), (b, .inl (G.2 0, 48, .inl (iF f)))] (Det (some (.int (iZ (bZ (0 ≤ x ∧ x < n))))) [(a, .inr (3, [.ref b, .int (iZ n)])), (b, .inl (G.2 0, 48, .inl (iF f)))]) := by
  refine Ctr.go (own := RX4) (nm := "has") (by decide +kernel) rfl rfl [some (.ref a), some (.int (iZ x))] 0 rfl rfl (Nat.le_of_ble_eq_true rfl) ?_
  intro K h hF
  refine V_iload_n h (dk dd_X4_has_0 0 rfl) rfl get1 ?_
  refine V_if_lt (tgt := 16) h (dk dd_X4_has_0 1 rfl) rfl (by omega) (fun c1 => ?_) (fun c1 => ?_)
  · refine V_iconst h (dk dd_X4_has_0 8 rfl) ?_
    refine V_zret h hF (dk dd_X4_has_0 9 rfl) ⟨Nat.le_of_ble_eq_true rfl, Nat.le_of_ble_eq_true rfl⟩ (by first | exact Or.inr rfl | exact Or.inl rfl | exact bZ_01 | omega) ?_
    exact det_i (by first | exact (bZ_t (by omega)).symm | exact (bZ_f (by omega)).symm | rfl) rfl
  · refine V_iload_n h (dk dd_X4_has_0 2 rfl) rfl get1 ?_
    refine V_aload_n h (dk dd_X4_has_0 3 rfl) rfl get0 ?_
    refine V_get h fl_X4_41 0 get0 get1 (dk dd_X4_has_0 4 rfl) ?_
    refine V_icmp_ge (tgt := 16) h (dk dd_X4_has_0 5 rfl) rfl (by omega) (fun c9 => ?_) (fun c9 => ?_)
    · refine V_iconst h (dk dd_X4_has_0 8 rfl) ?_
      refine V_zret h hF (dk dd_X4_has_0 9 rfl) ⟨Nat.le_of_ble_eq_true rfl, Nat.le_of_ble_eq_true rfl⟩ (by first | exact Or.inr rfl | exact Or.inl rfl | exact bZ_01 | omega) ?_
      exact det_i (by first | exact (bZ_t (by omega)).symm | exact (bZ_f (by omega)).symm | rfl) rfl
    · refine V_iconst h (dk dd_X4_has_0 6 rfl) ?_
      refine V_goto (tgt := 17) h (dk dd_X4_has_0 7 rfl) rfl ?_
      refine V_zret h hF (dk dd_X4_has_0 9 rfl) ⟨Nat.le_of_ble_eq_true rfl, Nat.le_of_ble_eq_true rfl⟩ (by first | exact Or.inr rfl | exact Or.inl rfl | exact bZ_01 | omega) ?_
      exact det_i (by first | exact (bZ_t (by omega)).symm | exact (bZ_f (by omega)).symm | rfl) rfl

set_option maxHeartbeats 4000000 in
set_option maxRecDepth 100000 in
theorem m_X4_numberOf (l : Launch) (G : GT) (a b : Nat) (n : Int) (f : Int → Int) (x y : Int) (hn : 0 ≤ n ∧ n ≤ 12) (hx : R32 x) (hy : R32 y) : Ctr l G yX4_numberOf cX4_numberOf 3 (Option.some FieldType.int) (rmO 1 0 0 21) [.ref a, .int (iZ x), .int (iZ y)] [(a, .inr (3, [.ref b, .int (iZ n)])), (b, .inl (G.2 0, 48, .inl (iF f)))] (Det (some (.int (iZ (numF n f x y)))) [(a, .inr (3, [.ref b, .int (iZ n)])), (b, .inl (G.2 0, 48, .inl (iF f)))]) := by
  refine Ctr.go (own := RX4) (nm := "numberOf") (by decide +kernel) rfl rfl [some (.ref a), some (.int (iZ x)), some (.int (iZ y))] 0 rfl rfl (Nat.le_of_ble_eq_true rfl) ?_
  intro K h hF
  refine V_aload_n h (dk dd_X4_numberOf_0 0 rfl) rfl get0 ?_
  refine V_iload_n h (dk dd_X4_numberOf_0 1 rfl) rfl get1 ?_
  refine V_callV h st2 ci_X4_45 (pk_c get0 (pk_c get1 pk_n)) rfl 0 get0 rfl (m_X4_has l G _ _ _ _ _ (by omega) (by omega)) rfl rfl (Nat.le_of_ble_eq_true rfl) (by decide) ⟨rfl, rfl, rfl⟩ (dk dd_X4_numberOf_0 2 rfl) sk1 (sm_c set0 (sm_c set1 sm_n)) ?_
  refine V_ifz_eq (tgt := 17) h (dk dd_X4_numberOf_0 3 rfl) rfl (fun c5 => ?_) (fun c5 => ?_)
  · refine V_ldc h q2_160 (dk dd_X4_numberOf_0 9 rfl) ?_
    refine V_iret h hF (dk dd_X4_numberOf_0 10 rfl) ⟨Nat.le_of_ble_eq_true rfl, Nat.le_of_ble_eq_true rfl⟩ ?_
    exact det_i (by unfold numF; split <;> first | rfl | omega) rfl
  · refine V_iload_n h (dk dd_X4_numberOf_0 4 rfl) rfl get2 ?_
    refine V_if_lt (tgt := 17) h (dk dd_X4_numberOf_0 5 rfl) rfl (by omega) (fun c9 => ?_) (fun c9 => ?_)
    · refine V_ldc h q2_160 (dk dd_X4_numberOf_0 9 rfl) ?_
      refine V_iret h hF (dk dd_X4_numberOf_0 10 rfl) ⟨Nat.le_of_ble_eq_true rfl, Nat.le_of_ble_eq_true rfl⟩ ?_
      exact det_i (by unfold numF; split <;> first | rfl | omega) rfl
    · refine V_iload_n h (dk dd_X4_numberOf_0 6 rfl) rfl get2 ?_
      refine V_iconst h (dk dd_X4_numberOf_0 7 rfl) ?_
      refine V_icmp_lt (tgt := 20) h (dk dd_X4_numberOf_0 8 rfl) rfl (by omega) (fun c14 => ?_) (fun c14 => ?_)
      · refine V_aload_n h (dk dd_X4_numberOf_0 11 rfl) rfl get0 ?_
        refine V_get h fl_X4_9 0 get0 get0 (dk dd_X4_numberOf_0 12 rfl) ?_
        refine V_iload_n h (dk dd_X4_numberOf_0 13 rfl) rfl get1 ?_
        refine V_iconst h (dk dd_X4_numberOf_0 14 rfl) ?_
        refine V_imul h (dk dd_X4_numberOf_0 15 rfl) ?_
        refine V_iload_n h (dk dd_X4_numberOf_0 16 rfl) rfl get2 ?_
        refine V_iadd h (dk dd_X4_numberOf_0 17 rfl) ?_
        refine V_iald h 1 get1 (by omega) (dk dd_X4_numberOf_0 18 rfl) ?_
        refine V_iret h hF (dk dd_X4_numberOf_0 19 rfl) ⟨Nat.le_of_ble_eq_true rfl, Nat.le_of_ble_eq_true rfl⟩ ?_
        exact det_i (by unfold numF; split <;> first | rfl | omega) rfl
      · refine V_ldc h q2_160 (dk dd_X4_numberOf_0 9 rfl) ?_
        refine V_iret h hF (dk dd_X4_numberOf_0 10 rfl) ⟨Nat.le_of_ble_eq_true rfl, Nat.le_of_ble_eq_true rfl⟩ ?_
        exact det_i (by unfold numF; split <;> first | rfl | omega) rfl

set_option maxHeartbeats 4000000 in
set_option maxRecDepth 100000 in
theorem m_X4_numberOf_in (l : Launch) (G : GT) (a b : Nat) (n : Int) (f : Int → Int) (x y : Int) (hn : 0 ≤ n ∧ n ≤ 12) (hx : 0 ≤ x ∧ x < n) (hy : 0 ≤ y ∧ y < 4) : Ctr l G yX4_numberOf cX4_numberOf 3 (Option.some FieldType.int) (rmO 1 0 0 21) [.ref a, .int (iZ x), .int (iZ y)] [(a, .inr (3, [.ref b, .int (iZ n)])), (b, .inl (G.2 0, 48, .inl (iF f)))] (Det (some (.int (iZ (f (x * 4 + y))))) [(a, .inr (3, [.ref b, .int (iZ n)])), (b, .inl (G.2 0, 48, .inl (iF f)))]) := by
  refine Ctr.go (own := RX4) (nm := "numberOf") (by decide +kernel) rfl rfl [some (.ref a), some (.int (iZ x)), some (.int (iZ y))] 0 rfl rfl (Nat.le_of_ble_eq_true rfl) ?_
  intro K h hF
  refine V_aload_n h (dk dd_X4_numberOf_0 0 rfl) rfl get0 ?_
  refine V_iload_n h (dk dd_X4_numberOf_0 1 rfl) rfl get1 ?_
  refine V_callV h st2 ci_X4_45 (pk_c get0 (pk_c get1 pk_n)) rfl 0 get0 rfl (m_X4_has l G _ _ _ _ _ (by omega) (by omega)) rfl rfl (Nat.le_of_ble_eq_true rfl) (by decide) ⟨rfl, rfl, rfl⟩ (dk dd_X4_numberOf_0 2 rfl) sk1 (sm_c set0 (sm_c set1 sm_n)) ?_
  refine V_ifz_eq (tgt := 17) h (dk dd_X4_numberOf_0 3 rfl) rfl (fun c5 => ?_) (fun c5 => ?_)
  · exfalso; omega
  · refine V_iload_n h (dk dd_X4_numberOf_0 4 rfl) rfl get2 ?_
    refine V_if_lt (tgt := 17) h (dk dd_X4_numberOf_0 5 rfl) rfl (by omega) (fun c9 => ?_) (fun c9 => ?_)
    · exfalso; omega
    · refine V_iload_n h (dk dd_X4_numberOf_0 6 rfl) rfl get2 ?_
      refine V_iconst h (dk dd_X4_numberOf_0 7 rfl) ?_
      refine V_icmp_lt (tgt := 20) h (dk dd_X4_numberOf_0 8 rfl) rfl (by omega) (fun c14 => ?_) (fun c14 => ?_)
      · refine V_aload_n h (dk dd_X4_numberOf_0 11 rfl) rfl get0 ?_
        refine V_get h fl_X4_9 0 get0 get0 (dk dd_X4_numberOf_0 12 rfl) ?_
        refine V_iload_n h (dk dd_X4_numberOf_0 13 rfl) rfl get1 ?_
        refine V_iconst h (dk dd_X4_numberOf_0 14 rfl) ?_
        refine V_imul h (dk dd_X4_numberOf_0 15 rfl) ?_
        refine V_iload_n h (dk dd_X4_numberOf_0 16 rfl) rfl get2 ?_
        refine V_iadd h (dk dd_X4_numberOf_0 17 rfl) ?_
        refine V_iald h 1 get1 (by omega) (dk dd_X4_numberOf_0 18 rfl) ?_
        refine V_iret h hF (dk dd_X4_numberOf_0 19 rfl) ⟨Nat.le_of_ble_eq_true rfl, Nat.le_of_ble_eq_true rfl⟩ ?_
        exact det_i (by first | rfl | omega) rfl
      · exfalso; omega

set_option maxHeartbeats 4000000 in
set_option maxRecDepth 100000 in
theorem m_X4_covers (l : Launch) (G : GT) (a b : Nat) (n : Int) (f : Int → Int) (x p : Int) (hn : 0 ≤ n ∧ n ≤ 12) (hx : 0 ≤ x ∧ x < n) (hp : 0 ≤ p ∧ p < 27720) (h1 : 0 ≤ f (x * 4 + 1) ∧ f (x * 4 + 1) < 27720) (h2 : 1 ≤ f (x * 4 + 2) ∧ f (x * 4 + 2) ≤ 27720) : Ctr l G yX4_covers cX4_covers 3 (Option.some FieldType.boolean) (rmO 2 0 0 43) [.ref a, .int (iZ x), .int (iZ p)] [(a, .inr (3, [.ref b, .int (iZ n)])), (b, .inl (G.2 0, 48, .inl (iF f)))] (Det (some (.int (iZ (bZ ((p - f (x * 4 + 1)) % 27720 < f (x * 4 + 2)))))) [(a, .inr (3, [.ref b, .int (iZ n)])), (b, .inl (G.2 0, 48, .inl (iF f)))]) := by
  refine Ctr.go (own := RX4) (nm := "covers") (by decide +kernel) rfl rfl [some (.ref a), some (.int (iZ x)), some (.int (iZ p))] 0 rfl rfl (Nat.le_of_ble_eq_true rfl) ?_
  intro K h hF
  refine V_iload_n h (dk dd_X4_covers_0 0 rfl) rfl get2 ?_
  refine V_aload_n h (dk dd_X4_covers_0 1 rfl) rfl get0 ?_
  refine V_iload_n h (dk dd_X4_covers_0 2 rfl) rfl get1 ?_
  refine V_iconst h (dk dd_X4_covers_0 3 rfl) ?_
  refine V_callV h st3 ci_X4_49 (pk_c get0 (pk_c get1 pk_n)) rfl 0 get0 rfl (m_X4_numberOf_in l G _ _ _ _ _ _ (by omega) (by omega) (by omega)) rfl rfl (Nat.le_of_ble_eq_true rfl) (by decide) ⟨rfl, rfl, rfl⟩ (dk dd_X4_covers_0 4 rfl) sk1 (sm_c set0 (sm_c set1 sm_n)) ?_
  refine V_isub h (dk dd_X4_covers_0 5 rfl) ?_
  refine V_sipush h (dk dd_X4_covers_0 6 rfl) (by decide) ?_
  refine V_callS h st2 ci_X4_53 pk_n rfl (m_J9_floorMod_7cf53 l G _ _ (by omega) (by omega)) rfl rfl (Nat.le_of_ble_eq_true rfl) (by decide) ⟨rfl, rfl, rfl⟩ (dk dd_X4_covers_0 7 rfl) sk1 sm_n ?_
  refine V_aload_n h (dk dd_X4_covers_0 8 rfl) rfl get0 ?_
  refine V_iload_n h (dk dd_X4_covers_0 9 rfl) rfl get1 ?_
  refine V_iconst h (dk dd_X4_covers_0 10 rfl) ?_
  refine V_callV h st3 ci_X4_49 (pk_c get0 (pk_c get1 pk_n)) rfl 0 get0 rfl (m_X4_numberOf_in l G _ _ _ _ _ _ (by omega) (by omega) (by omega)) rfl rfl (Nat.le_of_ble_eq_true rfl) (by decide) ⟨rfl, rfl, rfl⟩ (dk dd_X4_covers_0 11 rfl) sk1 (sm_c set0 (sm_c set1 sm_n)) ?_
  refine V_icmp_ge (tgt := 27) h (dk dd_X4_covers_0 12 rfl) rfl (by omega) (fun c20 => ?_) (fun c20 => ?_)
  · refine V_iconst h (dk dd_X4_covers_0 15 rfl) ?_
    refine V_zret h hF (dk dd_X4_covers_0 16 rfl) ⟨Nat.le_of_ble_eq_true rfl, Nat.le_of_ble_eq_true rfl⟩ (by first | exact Or.inr rfl | exact Or.inl rfl | exact bZ_01 | omega) ?_
    exact det_i (by first | exact (bZ_t (by omega)).symm | exact (bZ_f (by omega)).symm | rfl) rfl
  · refine V_iconst h (dk dd_X4_covers_0 13 rfl) ?_
    refine V_goto (tgt := 28) h (dk dd_X4_covers_0 14 rfl) rfl ?_
    refine V_zret h hF (dk dd_X4_covers_0 16 rfl) ⟨Nat.le_of_ble_eq_true rfl, Nat.le_of_ble_eq_true rfl⟩ (by first | exact Or.inr rfl | exact Or.inl rfl | exact bZ_01 | omega) ?_
    exact det_i (by first | exact (bZ_t (by omega)).symm | exact (bZ_f (by omega)).symm | rfl) rfl

set_option maxHeartbeats 4000000 in
set_option maxRecDepth 100000 in
theorem m_X4_append (l : Launch) (G : GT) (a b : Nat) (n : Int) (f : Int → Int) (k p m q : Int) (hn : 0 ≤ n ∧ n < 12) : Ctr l G yX4_append cX4_append 6 none (rmO 0 0 0 0) [.ref a, .int (iZ k), .int (iZ p), .int (iZ m), .int (iZ q)] [(a, .inr (3, [.ref b, .int (iZ n)])), (b, .inl (G.2 0, 48, .inl (iF f)))] (Det none [(a, .inr (3, [.ref b, .int (iZ (n + 1))])), (b, .inl (G.2 0, 48, .inl (iF (appF f n k p m q))))]) := by
  refine Ctr.go (own := RX4) (nm := "append") (by decide +kernel) rfl rfl [some (.ref a), some (.int (iZ k)), some (.int (iZ p)), some (.int (iZ m)), some (.int (iZ q)), none] 1 rfl rfl (Nat.le_of_ble_eq_true rfl) ?_
  intro K h hF
  refine V_aload_n h (dk dd_X4_append_0 0 rfl) rfl get0 ?_
  refine V_get h fl_X4_41 0 get0 get1 (dk dd_X4_append_0 1 rfl) ?_
  refine V_bipush h (dk dd_X4_append_0 2 rfl) (by decide) ?_
  refine V_icmp_lt (tgt := 10) h (dk dd_X4_append_0 3 rfl) rfl (by omega) (fun c6 => ?_) (fun c6 => ?_)
  · refine V_aload_n h (dk dd_X4_append_0 5 rfl) rfl get0 ?_
    refine V_get h fl_X4_41 0 get0 get1 (dk dd_X4_append_0 6 rfl) ?_
    refine V_iconst h (dk dd_X4_append_0 7 rfl) ?_
    refine V_imul h (dk dd_X4_append_0 8 rfl) ?_
    refine V_istore h (dk dd_X4_append_0 9 rfl) (Nat.le_of_ble_eq_true rfl) rfl set5 ?_
    refine V_aload_n h (dk dd_X4_append_0 10 rfl) rfl get0 ?_
    refine V_get h fl_X4_9 0 get0 get0 (dk dd_X4_append_0 11 rfl) ?_
    refine V_iload h (dk dd_X4_append_0 12 rfl) get5 ?_
    refine V_iconst h (dk dd_X4_append_0 13 rfl) ?_
    refine V_iadd h (dk dd_X4_append_0 14 rfl) ?_
    refine V_iload_n h (dk dd_X4_append_0 15 rfl) rfl get1 ?_
    refine V_iast h 1 get1 (by omega) set1 (dk dd_X4_append_0 16 rfl) ?_
    refine V_aload_n h (dk dd_X4_append_0 17 rfl) rfl get0 ?_
    refine V_get h fl_X4_9 0 get0 get0 (dk dd_X4_append_0 18 rfl) ?_
    refine V_iload h (dk dd_X4_append_0 19 rfl) get5 ?_
    refine V_iconst h (dk dd_X4_append_0 20 rfl) ?_
    refine V_iadd h (dk dd_X4_append_0 21 rfl) ?_
    refine V_iload_n h (dk dd_X4_append_0 22 rfl) rfl get2 ?_
    refine V_iast h 1 get1 (by omega) set1 (dk dd_X4_append_0 23 rfl) ?_
    refine V_aload_n h (dk dd_X4_append_0 24 rfl) rfl get0 ?_
    refine V_get h fl_X4_9 0 get0 get0 (dk dd_X4_append_0 25 rfl) ?_
    refine V_iload h (dk dd_X4_append_0 26 rfl) get5 ?_
    refine V_iconst h (dk dd_X4_append_0 27 rfl) ?_
    refine V_iadd h (dk dd_X4_append_0 28 rfl) ?_
    refine V_iload_n h (dk dd_X4_append_0 29 rfl) rfl get3 ?_
    refine V_iast h 1 get1 (by omega) set1 (dk dd_X4_append_0 30 rfl) ?_
    refine V_aload_n h (dk dd_X4_append_0 31 rfl) rfl get0 ?_
    refine V_get h fl_X4_9 0 get0 get0 (dk dd_X4_append_0 32 rfl) ?_
    refine V_iload h (dk dd_X4_append_0 33 rfl) get5 ?_
    refine V_iconst h (dk dd_X4_append_0 34 rfl) ?_
    refine V_iadd h (dk dd_X4_append_0 35 rfl) ?_
    refine V_iload h (dk dd_X4_append_0 36 rfl) get4 ?_
    refine V_iast h 1 get1 (by omega) set1 (dk dd_X4_append_0 37 rfl) ?_
    refine V_aload_n h (dk dd_X4_append_0 38 rfl) rfl get0 ?_
    refine V_dup h (dk dd_X4_append_0 39 rfl) rfl ?_
    refine V_get h fl_X4_41 0 get0 get1 (dk dd_X4_append_0 40 rfl) ?_
    refine V_iconst h (dk dd_X4_append_0 41 rfl) ?_
    refine V_iadd h (dk dd_X4_append_0 42 rfl) ?_
    refine V_put h pf_X4_41 0 get0 (Nat.le_of_ble_eq_true rfl) set1 set0 rfl rfl (dk dd_X4_append_0 43 rfl) ?_
    refine V_vret h hF (dk dd_X4_append_0 44 rfl) ⟨Nat.le_of_ble_eq_true rfl, Nat.le_of_ble_eq_true rfl⟩ ?_
    exact det_v rfl
  · exfalso; omega

set_option maxHeartbeats 4000000 in
set_option maxRecDepth 100000 in
theorem m_X4_takeOut (l : Launch) (G : GT) (a b : Nat) (n : Int) (f : Int → Int) (x : Int) (hn : 0 ≤ n ∧ n ≤ 12) (hx : 0 ≤ x ∧ x < n) : Ctr l G yX4_takeOut cX4_takeOut 4 none (rmO 1 0 0 21) [.ref a, .int (iZ x)] [(a, .inr (3, [.ref b, .int (iZ n)])), (b, .inl (G.2 0, 48, .inl (iF f)))] (Det none [(a, .inr (3, [.ref b, .int (iZ (n - 1))])), (b, .inl (G.2 0, 48, .inl (iF (cpyF f f (x * 4 + 4) (x * 4) (n * 4 - (x * 4 + 4))))))]) := by
  refine Ctr.go (own := RX4) (nm := "takeOut") (by decide +kernel) rfl rfl [some (.ref a), some (.int (iZ x)), none, none] 2 rfl rfl (Nat.le_of_ble_eq_true rfl) ?_
  intro K h hF
  refine V_aload_n h (dk dd_X4_takeOut_0 0 rfl) rfl get0 ?_
  refine V_iload_n h (dk dd_X4_takeOut_0 1 rfl) rfl get1 ?_
  refine V_callV h st2 ci_X4_45 (pk_c get0 (pk_c get1 pk_n)) rfl 0 get0 rfl (m_X4_has l G _ _ _ _ _ (by omega) (by omega)) rfl rfl (Nat.le_of_ble_eq_true rfl) (by decide) ⟨rfl, rfl, rfl⟩ (dk dd_X4_takeOut_0 2 rfl) sk1 (sm_c set0 (sm_c set1 sm_n)) ?_
  refine V_ifz_ne (tgt := 9) h (dk dd_X4_takeOut_0 3 rfl) rfl (fun c5 => ?_) (fun c5 => ?_)
  · refine V_iload_n h (dk dd_X4_takeOut_0 5 rfl) rfl get1 ?_
    refine V_iconst h (dk dd_X4_takeOut_0 6 rfl) ?_
    refine V_imul h (dk dd_X4_takeOut_0 7 rfl) ?_
    refine V_istore_n h (dk dd_X4_takeOut_0 8 rfl) rfl (Nat.le_of_ble_eq_true rfl) rfl set2 ?_
    refine V_iload_n h (dk dd_X4_takeOut_0 9 rfl) rfl get2 ?_
    refine V_iconst h (dk dd_X4_takeOut_0 10 rfl) ?_
    refine V_iadd h (dk dd_X4_takeOut_0 11 rfl) ?_
    refine V_istore_n h (dk dd_X4_takeOut_0 12 rfl) rfl (Nat.le_of_ble_eq_true rfl) rfl set3 ?_
    refine V_aload_n h (dk dd_X4_takeOut_0 13 rfl) rfl get0 ?_
    refine V_get h fl_X4_9 0 get0 get0 (dk dd_X4_takeOut_0 14 rfl) ?_
    refine V_iload_n h (dk dd_X4_takeOut_0 15 rfl) rfl get3 ?_
    refine V_aload_n h (dk dd_X4_takeOut_0 16 rfl) rfl get0 ?_
    refine V_get h fl_X4_9 0 get0 get0 (dk dd_X4_takeOut_0 17 rfl) ?_
    refine V_iload_n h (dk dd_X4_takeOut_0 18 rfl) rfl get2 ?_
    refine V_aload_n h (dk dd_X4_takeOut_0 19 rfl) rfl get0 ?_
    refine V_get h fl_X4_41 0 get0 get1 (dk dd_X4_takeOut_0 20 rfl) ?_
    refine V_iconst h (dk dd_X4_takeOut_0 21 rfl) ?_
    refine V_imul h (dk dd_X4_takeOut_0 22 rfl) ?_
    refine V_iload_n h (dk dd_X4_takeOut_0 23 rfl) rfl get3 ?_
    refine V_isub h (dk dd_X4_takeOut_0 24 rfl) ?_
    refine V_copyi h 1 1 get1 get1 (by omega) q2_50 (dk dd_X4_takeOut_0 25 rfl) set1 ⟨by decide, by decide⟩ rfl ?_
    refine V_aload_n h (dk dd_X4_takeOut_0 26 rfl) rfl get0 ?_
    refine V_dup h (dk dd_X4_takeOut_0 27 rfl) rfl ?_
    refine V_get h fl_X4_41 0 get0 get1 (dk dd_X4_takeOut_0 28 rfl) ?_
    refine V_iconst h (dk dd_X4_takeOut_0 29 rfl) ?_
    refine V_isub h (dk dd_X4_takeOut_0 30 rfl) ?_
    refine V_put h pf_X4_41 0 get0 (Nat.le_of_ble_eq_true rfl) set1 set0 rfl rfl (dk dd_X4_takeOut_0 31 rfl) ?_
    refine V_vret h hF (dk dd_X4_takeOut_0 32 rfl) ⟨Nat.le_of_ble_eq_true rfl, Nat.le_of_ble_eq_true rfl⟩ ?_
    exact det_v rfl
  · exfalso; omega

set_option maxHeartbeats 4000000 in
set_option maxRecDepth 100000 in
theorem m_X4_copyFrom (l : Launch) (G : GT) (a b c d : Nat) (n m : Int) (f g : Int → Int) (hm : 0 ≤ m ∧ m ≤ 12) : Ctr l G yX4_copyFrom cX4_copyFrom 2 none (rmO 1 0 0 18) [.ref a, .ref c] [(a, .inr (3, [.ref b, .int (iZ n)])), (b, .inl (G.2 0, 48, .inl (iF f))), (c, .inr (3, [.ref d, .int (iZ m)])), (d, .inl (G.2 0, 48, .inl (iF g)))] (Det none [(a, .inr (3, [.ref b, .int (iZ m)])), (b, .inl (G.2 0, 48, .inl (iF (cpyF g f 0 0 (m * 4))))), (c, .inr (3, [.ref d, .int (iZ m)])), (d, .inl (G.2 0, 48, .inl (iF g)))]) := by
  refine Ctr.go (own := RX4) (nm := "copyFrom") (by decide +kernel) rfl rfl [some (.ref a), some (.ref c)] 0 rfl rfl (Nat.le_of_ble_eq_true rfl) ?_
  intro K h hF
  refine V_aload_n h (dk dd_X4_copyFrom_0 0 rfl) rfl get1 ?_
  refine V_get h fl_X4_9 2 get2 get0 (dk dd_X4_copyFrom_0 1 rfl) ?_
  refine V_iconst h (dk dd_X4_copyFrom_0 2 rfl) ?_
  refine V_aload_n h (dk dd_X4_copyFrom_0 3 rfl) rfl get0 ?_
  refine V_get h fl_X4_9 0 get0 get0 (dk dd_X4_copyFrom_0 4 rfl) ?_
  refine V_iconst h (dk dd_X4_copyFrom_0 5 rfl) ?_
  refine V_aload_n h (dk dd_X4_copyFrom_0 6 rfl) rfl get1 ?_
  refine V_get h fl_X4_41 2 get2 get1 (dk dd_X4_copyFrom_0 7 rfl) ?_
  refine V_iconst h (dk dd_X4_copyFrom_0 8 rfl) ?_
  refine V_imul h (dk dd_X4_copyFrom_0 9 rfl) ?_
  refine V_copyi h 3 1 get3 get1 (by omega) q2_50 (dk dd_X4_copyFrom_0 10 rfl) set1 ⟨by decide, by decide⟩ rfl ?_
  refine V_aload_n h (dk dd_X4_copyFrom_0 11 rfl) rfl get0 ?_
  refine V_aload_n h (dk dd_X4_copyFrom_0 12 rfl) rfl get1 ?_
  refine V_get h fl_X4_41 2 get2 get1 (dk dd_X4_copyFrom_0 13 rfl) ?_
  refine V_put h pf_X4_41 0 get0 (Nat.le_of_ble_eq_true rfl) set1 set0 rfl rfl (dk dd_X4_copyFrom_0 14 rfl) ?_
  refine V_vret h hF (dk dd_X4_copyFrom_0 15 rfl) ⟨Nat.le_of_ble_eq_true rfl, Nat.le_of_ble_eq_true rfl⟩ ?_
  exact det_v rfl

set_option maxHeartbeats 4000000 in
set_option maxRecDepth 100000 in
theorem m_X10_copyFrom (l : Launch) (G : GT) (w a b v c d : Nat) (n m L T L2 T2 : Int) (f g : Int → Int) (hm : 0 ≤ m ∧ m ≤ 12) : Ctr l G yX10_copyFrom cX10_copyFrom 2 none (rmO 2 0 0 39) [.ref w, .ref v] [(w, .inr (9, [.ref a, .int (iZ L), .int (iZ T)])), (a, .inr (3, [.ref b, .int (iZ n)])), (b, .inl (G.2 0, 48, .inl (iF f))), (v, .inr (9, [.ref c, .int (iZ L2), .int (iZ T2)])), (c, .inr (3, [.ref d, .int (iZ m)])), (d, .inl (G.2 0, 48, .inl (iF g)))] (Det none [(w, .inr (9, [.ref a, .int (iZ L2), .int (iZ T2)])), (a, .inr (3, [.ref b, .int (iZ m)])), (b, .inl (G.2 0, 48, .inl (iF (cpyF g f 0 0 (m * 4))))), (v, .inr (9, [.ref c, .int (iZ L2), .int (iZ T2)])), (c, .inr (3, [.ref d, .int (iZ m)])), (d, .inl (G.2 0, 48, .inl (iF g)))]) := by
  refine Ctr.go (own := RX10) (nm := "copyFrom") (by decide +kernel) rfl rfl [some (.ref w), some (.ref v)] 0 rfl rfl (Nat.le_of_ble_eq_true rfl) ?_
  intro K h hF
  refine V_aload_n h (dk dd_X10_copyFrom_0 0 rfl) rfl get0 ?_
  refine V_get h fl_X10_10 0 get0 get0 (dk dd_X10_copyFrom_0 1 rfl) ?_
  refine V_aload_n h (dk dd_X10_copyFrom_0 2 rfl) rfl get1 ?_
  refine V_get h fl_X10_10 3 get3 get0 (dk dd_X10_copyFrom_0 3 rfl) ?_
  refine V_callV h st2 ci_X10_23 (pk_c get1 (pk_c get2 (pk_c get4 (pk_c get5 pk_n)))) rfl 1 get1 rfl (m_X4_copyFrom l G _ _ _ _ _ _ _ _ (by omega)) rfl rfl (Nat.le_of_ble_eq_true rfl) (by decide) ⟨rfl, rfl, rfl⟩ (dk dd_X10_copyFrom_0 4 rfl) sk0 (sm_c set1 (sm_c set2 (sm_c set4 (sm_c set5 sm_n)))) ?_
  refine V_aload_n h (dk dd_X10_copyFrom_0 5 rfl) rfl get0 ?_
  refine V_aload_n h (dk dd_X10_copyFrom_0 6 rfl) rfl get1 ?_
  refine V_get h fl_X10_16 3 get3 get1 (dk dd_X10_copyFrom_0 7 rfl) ?_
  refine V_put h pf_X10_16 0 get0 (Nat.le_of_ble_eq_true rfl) set1 set0 rfl rfl (dk dd_X10_copyFrom_0 8 rfl) ?_
  refine V_aload_n h (dk dd_X10_copyFrom_0 9 rfl) rfl get0 ?_
  refine V_aload_n h (dk dd_X10_copyFrom_0 10 rfl) rfl get1 ?_
  refine V_get h fl_X10_20 3 get3 get2 (dk dd_X10_copyFrom_0 11 rfl) ?_
  refine V_put h pf_X10_20 0 get0 (Nat.le_of_ble_eq_true rfl) set2 set0 rfl rfl (dk dd_X10_copyFrom_0 12 rfl) ?_
  refine V_vret h hF (dk dd_X10_copyFrom_0 13 rfl) ⟨Nat.le_of_ble_eq_true rfl, Nat.le_of_ble_eq_true rfl⟩ ?_
  exact det_v rfl

set_option maxHeartbeats 4000000 in
set_option maxRecDepth 100000 in
theorem m_X2_dropOldest (l : Launch) (G : GT) (h sa : Nat) (wa pa aa : Nat → Nat) (N L T : Nat → Int) (F : Nat → Int → Int) (c : Int)  : Ctr l G yX2_dropOldest cX2_dropOldest 3 none (rmO 0 0 0 0) [.ref h] [(h, .inr (1, [.ref sa, .int (iZ c)])), (sa, .inl (G.2 5, 5, .inr (.inr (.inr (.inr (arr5 wa)))))), ((wa 0), .inr (9, [.ref (pa 0), .int (iZ (L 0)), .int (iZ (T 0))])), ((pa 0), .inr (3, [.ref (aa 0), .int (iZ (N 0))])), ((aa 0), .inl (G.2 0, 48, .inl (iF (F 0)))), ((wa 1), .inr (9, [.ref (pa 1), .int (iZ (L 1)), .int (iZ (T 1))])), ((pa 1), .inr (3, [.ref (aa 1), .int (iZ (N 1))])), ((aa 1), .inl (G.2 0, 48, .inl (iF (F 1)))), ((wa 2), .inr (9, [.ref (pa 2), .int (iZ (L 2)), .int (iZ (T 2))])), ((pa 2), .inr (3, [.ref (aa 2), .int (iZ (N 2))])), ((aa 2), .inl (G.2 0, 48, .inl (iF (F 2)))), ((wa 3), .inr (9, [.ref (pa 3), .int (iZ (L 3)), .int (iZ (T 3))])), ((pa 3), .inr (3, [.ref (aa 3), .int (iZ (N 3))])), ((aa 3), .inl (G.2 0, 48, .inl (iF (F 3)))), ((wa 4), .inr (9, [.ref (pa 4), .int (iZ (L 4)), .int (iZ (T 4))])), ((pa 4), .inr (3, [.ref (aa 4), .int (iZ (N 4))])), ((aa 4), .inl (G.2 0, 48, .inl (iF (F 4))))] (Det none [(h, .inr (1, [.ref sa, .int (iZ 4)])), (sa, .inl (G.2 5, 5, .inr (.inr (.inr (.inr (arr5 (rot5 wa))))))), (((rot5 wa) 0), .inr (9, [.ref ((rot5 pa) 0), .int (iZ ((rot5 L) 0)), .int (iZ ((rot5 T) 0))])), (((rot5 pa) 0), .inr (3, [.ref ((rot5 aa) 0), .int (iZ ((rot5 N) 0))])), (((rot5 aa) 0), .inl (G.2 0, 48, .inl (iF ((rot5 F) 0)))), (((rot5 wa) 1), .inr (9, [.ref ((rot5 pa) 1), .int (iZ ((rot5 L) 1)), .int (iZ ((rot5 T) 1))])), (((rot5 pa) 1), .inr (3, [.ref ((rot5 aa) 1), .int (iZ ((rot5 N) 1))])), (((rot5 aa) 1), .inl (G.2 0, 48, .inl (iF ((rot5 F) 1)))), (((rot5 wa) 2), .inr (9, [.ref ((rot5 pa) 2), .int (iZ ((rot5 L) 2)), .int (iZ ((rot5 T) 2))])), (((rot5 pa) 2), .inr (3, [.ref ((rot5 aa) 2), .int (iZ ((rot5 N) 2))])), (((rot5 aa) 2), .inl (G.2 0, 48, .inl (iF ((rot5 F) 2)))), (((rot5 wa) 3), .inr (9, [.ref ((rot5 pa) 3), .int (iZ ((rot5 L) 3)), .int (iZ ((rot5 T) 3))])), (((rot5 pa) 3), .inr (3, [.ref ((rot5 aa) 3), .int (iZ ((rot5 N) 3))])), (((rot5 aa) 3), .inl (G.2 0, 48, .inl (iF ((rot5 F) 3)))), (((rot5 wa) 4), .inr (9, [.ref ((rot5 pa) 4), .int (iZ ((rot5 L) 4)), .int (iZ ((rot5 T) 4))])), (((rot5 pa) 4), .inr (3, [.ref ((rot5 aa) 4), .int (iZ ((rot5 N) 4))])), (((rot5 aa) 4), .inl (G.2 0, 48, .inl (iF ((rot5 F) 4))))]) := by
  refine Ctr.go (own := RX2) (nm := "dropOldest") (by decide +kernel) rfl rfl [some (.ref h), none, none] 2 rfl rfl (Nat.le_of_ble_eq_true rfl) ?_
  intro K h hF
  refine V_aload_n h (dk dd_X2_dropOldest_0 0 rfl) rfl get0 ?_
  refine V_get h fl_X2_11 0 get0 get0 (dk dd_X2_dropOldest_0 1 rfl) ?_
  refine V_iconst h (dk dd_X2_dropOldest_0 2 rfl) ?_
  refine V_aald (b := (wa 0)) h 1 5 get1 rfl (by omega) (rfl) (dk dd_X2_dropOldest_0 3 rfl) ?_
  refine V_astore_n h (dk dd_X2_dropOldest_0 4 rfl) rfl (Nat.le_of_ble_eq_true rfl) rfl set1 ?_
  refine V_iconst h (dk dd_X2_dropOldest_0 5 rfl) ?_
  refine V_istore_n h (dk dd_X2_dropOldest_0 6 rfl) rfl (Nat.le_of_ble_eq_true rfl) rfl set2 ?_
  refine V_iload_n h (dk dd_X2_dropOldest_0 7 rfl) rfl get2 ?_
  refine V_iconst h (dk dd_X2_dropOldest_0 8 rfl) ?_
  refine V_icmp_ge (tgt := 34) h (dk dd_X2_dropOldest_0 9 rfl) rfl (by omega) (fun c11 => ?_) (fun c11 => ?_)
  · exfalso; omega
  · refine V_aload_n h (dk dd_X2_dropOldest_0 10 rfl) rfl get0 ?_
    refine V_get h fl_X2_11 0 get0 get0 (dk dd_X2_dropOldest_0 11 rfl) ?_
    refine V_iload_n h (dk dd_X2_dropOldest_0 12 rfl) rfl get2 ?_
    refine V_iconst h (dk dd_X2_dropOldest_0 13 rfl) ?_
    refine V_isub h (dk dd_X2_dropOldest_0 14 rfl) ?_
    refine V_aload_n h (dk dd_X2_dropOldest_0 15 rfl) rfl get0 ?_
    refine V_get h fl_X2_11 0 get0 get0 (dk dd_X2_dropOldest_0 16 rfl) ?_
    refine V_iload_n h (dk dd_X2_dropOldest_0 17 rfl) rfl get2 ?_
    refine V_aald (b := (wa 1)) h 1 5 get1 rfl (by omega) (rfl) (dk dd_X2_dropOldest_0 18 rfl) ?_
    refine V_aast (r := (RX10, TX10, 3)) h 1 5 5 get1 rfl get5 rfl (by omega) set1 (dk dd_X2_dropOldest_0 19 rfl) ?_
    refine V_iinc h (dk dd_X2_dropOldest_0 20 rfl) get2 (Nat.le_of_ble_eq_true rfl) rfl set2 ?_
    refine V_goto (tgt := 9) h (dk dd_X2_dropOldest_0 21 rfl) rfl ?_
    refine V_iload_n h (dk dd_X2_dropOldest_0 7 rfl) rfl get2 ?_
    refine V_iconst h (dk dd_X2_dropOldest_0 8 rfl) ?_
    refine V_icmp_ge (tgt := 34) h (dk dd_X2_dropOldest_0 9 rfl) rfl (by omega) (fun c11_2 => ?_) (fun c11_2 => ?_)
    · exfalso; omega
    · refine V_aload_n h (dk dd_X2_dropOldest_0 10 rfl) rfl get0 ?_
      refine V_get h fl_X2_11 0 get0 get0 (dk dd_X2_dropOldest_0 11 rfl) ?_
      refine V_iload_n h (dk dd_X2_dropOldest_0 12 rfl) rfl get2 ?_
      refine V_iconst h (dk dd_X2_dropOldest_0 13 rfl) ?_
      refine V_isub h (dk dd_X2_dropOldest_0 14 rfl) ?_
      refine V_aload_n h (dk dd_X2_dropOldest_0 15 rfl) rfl get0 ?_
      refine V_get h fl_X2_11 0 get0 get0 (dk dd_X2_dropOldest_0 16 rfl) ?_
      refine V_iload_n h (dk dd_X2_dropOldest_0 17 rfl) rfl get2 ?_
      refine V_aald (b := (wa 2)) h 1 5 get1 rfl (by omega) (rfl) (dk dd_X2_dropOldest_0 18 rfl) ?_
      refine V_aast (r := (RX10, TX10, 3)) h 1 5 8 get1 rfl get8 rfl (by omega) set1 (dk dd_X2_dropOldest_0 19 rfl) ?_
      refine V_iinc h (dk dd_X2_dropOldest_0 20 rfl) get2 (Nat.le_of_ble_eq_true rfl) rfl set2 ?_
      refine V_goto (tgt := 9) h (dk dd_X2_dropOldest_0 21 rfl) rfl ?_
      refine V_iload_n h (dk dd_X2_dropOldest_0 7 rfl) rfl get2 ?_
      refine V_iconst h (dk dd_X2_dropOldest_0 8 rfl) ?_
      refine V_icmp_ge (tgt := 34) h (dk dd_X2_dropOldest_0 9 rfl) rfl (by omega) (fun c11_3 => ?_) (fun c11_3 => ?_)
      · exfalso; omega
      · refine V_aload_n h (dk dd_X2_dropOldest_0 10 rfl) rfl get0 ?_
        refine V_get h fl_X2_11 0 get0 get0 (dk dd_X2_dropOldest_0 11 rfl) ?_
        refine V_iload_n h (dk dd_X2_dropOldest_0 12 rfl) rfl get2 ?_
        refine V_iconst h (dk dd_X2_dropOldest_0 13 rfl) ?_
        refine V_isub h (dk dd_X2_dropOldest_0 14 rfl) ?_
        refine V_aload_n h (dk dd_X2_dropOldest_0 15 rfl) rfl get0 ?_
        refine V_get h fl_X2_11 0 get0 get0 (dk dd_X2_dropOldest_0 16 rfl) ?_
        refine V_iload_n h (dk dd_X2_dropOldest_0 17 rfl) rfl get2 ?_
        refine V_aald (b := (wa 3)) h 1 5 get1 rfl (by omega) (rfl) (dk dd_X2_dropOldest_0 18 rfl) ?_
        refine V_aast (r := (RX10, TX10, 3)) h 1 5 11 get1 rfl get11 rfl (by omega) set1 (dk dd_X2_dropOldest_0 19 rfl) ?_
        refine V_iinc h (dk dd_X2_dropOldest_0 20 rfl) get2 (Nat.le_of_ble_eq_true rfl) rfl set2 ?_
        refine V_goto (tgt := 9) h (dk dd_X2_dropOldest_0 21 rfl) rfl ?_
        refine V_iload_n h (dk dd_X2_dropOldest_0 7 rfl) rfl get2 ?_
        refine V_iconst h (dk dd_X2_dropOldest_0 8 rfl) ?_
        refine V_icmp_ge (tgt := 34) h (dk dd_X2_dropOldest_0 9 rfl) rfl (by omega) (fun c11_4 => ?_) (fun c11_4 => ?_)
        · exfalso; omega
        · refine V_aload_n h (dk dd_X2_dropOldest_0 10 rfl) rfl get0 ?_
          refine V_get h fl_X2_11 0 get0 get0 (dk dd_X2_dropOldest_0 11 rfl) ?_
          refine V_iload_n h (dk dd_X2_dropOldest_0 12 rfl) rfl get2 ?_
          refine V_iconst h (dk dd_X2_dropOldest_0 13 rfl) ?_
          refine V_isub h (dk dd_X2_dropOldest_0 14 rfl) ?_
          refine V_aload_n h (dk dd_X2_dropOldest_0 15 rfl) rfl get0 ?_
          refine V_get h fl_X2_11 0 get0 get0 (dk dd_X2_dropOldest_0 16 rfl) ?_
          refine V_iload_n h (dk dd_X2_dropOldest_0 17 rfl) rfl get2 ?_
          refine V_aald (b := (wa 4)) h 1 5 get1 rfl (by omega) (rfl) (dk dd_X2_dropOldest_0 18 rfl) ?_
          refine V_aast (r := (RX10, TX10, 3)) h 1 5 14 get1 rfl get14 rfl (by omega) set1 (dk dd_X2_dropOldest_0 19 rfl) ?_
          refine V_iinc h (dk dd_X2_dropOldest_0 20 rfl) get2 (Nat.le_of_ble_eq_true rfl) rfl set2 ?_
          refine V_goto (tgt := 9) h (dk dd_X2_dropOldest_0 21 rfl) rfl ?_
          refine V_iload_n h (dk dd_X2_dropOldest_0 7 rfl) rfl get2 ?_
          refine V_iconst h (dk dd_X2_dropOldest_0 8 rfl) ?_
          refine V_icmp_ge (tgt := 34) h (dk dd_X2_dropOldest_0 9 rfl) rfl (by omega) (fun c11_5 => ?_) (fun c11_5 => ?_)
          · refine V_aload_n h (dk dd_X2_dropOldest_0 22 rfl) rfl get0 ?_
            refine V_get h fl_X2_11 0 get0 get0 (dk dd_X2_dropOldest_0 23 rfl) ?_
            refine V_iconst h (dk dd_X2_dropOldest_0 24 rfl) ?_
            refine V_aload_n h (dk dd_X2_dropOldest_0 25 rfl) rfl get1 ?_
            refine V_aast (r := (RX10, TX10, 3)) h 1 5 2 get1 rfl get2 rfl (by omega) set1 (dk dd_X2_dropOldest_0 26 rfl) ?_
            refine V_aload_n h (dk dd_X2_dropOldest_0 27 rfl) rfl get0 ?_
            refine V_iconst h (dk dd_X2_dropOldest_0 28 rfl) ?_
            refine V_put h pf_X2_18 0 get0 (Nat.le_of_ble_eq_true rfl) set1 set0 rfl rfl (dk dd_X2_dropOldest_0 29 rfl) ?_
            refine V_perm (is := [0, 1, 5, 6, 7, 8, 9, 10, 11, 12, 13, 14, 15, 16, 2, 3, 4]) (pk_c get0 (pk_c get1 (pk_c get5 (pk_c get6 (pk_c get7 (pk_c get8 (pk_c get9 (pk_c get10 (pk_c get11 (pk_c get12 (pk_c get13 (pk_c get14 (pk_c get15 (pk_c get16 (pk_c get2 (pk_c get3 (pk_c get4 pk_n))))))))))))))))) rfl ?_
            refine V_vret h hF (dk dd_X2_dropOldest_0 30 rfl) ⟨Nat.le_of_ble_eq_true rfl, Nat.le_of_ble_eq_true rfl⟩ ?_
            exact det_v (by rw [← rot_arr]; rfl)
          · exfalso; omega

set_option maxHeartbeats 4000000 in
set_option maxRecDepth 100000 in
theorem m_X2_keep (l : Launch) (G : GT) (h sa : Nat) (wa pa aa : Nat → Nat) (N L T : Nat → Int) (F : Nat → Int → Int) (c : Int) (w a b : Nat) (n L0 T0 : Int) (f : Int → Int) (hc : 0 ≤ c ∧ c ≤ 5) (hn : 0 ≤ n ∧ n ≤ 12) : Ctr l G yX2_keep cX2_keep 2 none (rmO 3 0 0 60) [.ref h, .ref w] [(h, .inr (1, [.ref sa, .int (iZ c)])), (sa, .inl (G.2 5, 5, .inr (.inr (.inr (.inr (arr5 wa)))))), ((wa 0), .inr (9, [.ref (pa 0), .int (iZ (L 0)), .int (iZ (T 0))])), ((pa 0), .inr (3, [.ref (aa 0), .int (iZ (N 0))])), ((aa 0), .inl (G.2 0, 48, .inl (iF (F 0)))), ((wa 1), .inr (9, [.ref (pa 1), .int (iZ (L 1)), .int (iZ (T 1))])), ((pa 1), .inr (3, [.ref (aa 1), .int (iZ (N 1))])), ((aa 1), .inl (G.2 0, 48, .inl (iF (F 1)))), ((wa 2), .inr (9, [.ref (pa 2), .int (iZ (L 2)), .int (iZ (T 2))])), ((pa 2), .inr (3, [.ref (aa 2), .int (iZ (N 2))])), ((aa 2), .inl (G.2 0, 48, .inl (iF (F 2)))), ((wa 3), .inr (9, [.ref (pa 3), .int (iZ (L 3)), .int (iZ (T 3))])), ((pa 3), .inr (3, [.ref (aa 3), .int (iZ (N 3))])), ((aa 3), .inl (G.2 0, 48, .inl (iF (F 3)))), ((wa 4), .inr (9, [.ref (pa 4), .int (iZ (L 4)), .int (iZ (T 4))])), ((pa 4), .inr (3, [.ref (aa 4), .int (iZ (N 4))])), ((aa 4), .inl (G.2 0, 48, .inl (iF (F 4)))), (w, .inr (9, [.ref a, .int (iZ L0), .int (iZ T0)])), (a, .inr (3, [.ref b, .int (iZ n)])), (b, .inl (G.2 0, 48, .inl (iF f)))] (Det none [(h, .inr (1, [.ref sa, .int (iZ (kc c))])), (sa, .inl (G.2 5, 5, .inr (.inr (.inr (.inr (arr5 (rk wa c))))))), (((rk wa c) 0), .inr (9, [.ref ((rk pa c) 0), .int (iZ ((kp L c L0) 0)), .int (iZ ((kp T c T0) 0))])), (((rk pa c) 0), .inr (3, [.ref ((rk aa c) 0), .int (iZ ((kp N c n) 0))])), (((rk aa c) 0), .inl (G.2 0, 48, .inl (iF ((kp F c (cpyF f (oldF F c) 0 0 (n * 4))) 0)))), (((rk wa c) 1), .inr (9, [.ref ((rk pa c) 1), .int (iZ ((kp L c L0) 1)), .int (iZ ((kp T c T0) 1))])), (((rk pa c) 1), .inr (3, [.ref ((rk aa c) 1), .int (iZ ((kp N c n) 1))])), (((rk aa c) 1), .inl (G.2 0, 48, .inl (iF ((kp F c (cpyF f (oldF F c) 0 0 (n * 4))) 1)))), (((rk wa c) 2), .inr (9, [.ref ((rk pa c) 2), .int (iZ ((kp L c L0) 2)), .int (iZ ((kp T c T0) 2))])), (((rk pa c) 2), .inr (3, [.ref ((rk aa c) 2), .int (iZ ((kp N c n) 2))])), (((rk aa c) 2), .inl (G.2 0, 48, .inl (iF ((kp F c (cpyF f (oldF F c) 0 0 (n * 4))) 2)))), (((rk wa c) 3), .inr (9, [.ref ((rk pa c) 3), .int (iZ ((kp L c L0) 3)), .int (iZ ((kp T c T0) 3))])), (((rk pa c) 3), .inr (3, [.ref ((rk aa c) 3), .int (iZ ((kp N c n) 3))])), (((rk aa c) 3), .inl (G.2 0, 48, .inl (iF ((kp F c (cpyF f (oldF F c) 0 0 (n * 4))) 3)))), (((rk wa c) 4), .inr (9, [.ref ((rk pa c) 4), .int (iZ ((kp L c L0) 4)), .int (iZ ((kp T c T0) 4))])), (((rk pa c) 4), .inr (3, [.ref ((rk aa c) 4), .int (iZ ((kp N c n) 4))])), (((rk aa c) 4), .inl (G.2 0, 48, .inl (iF ((kp F c (cpyF f (oldF F c) 0 0 (n * 4))) 4)))), (w, .inr (9, [.ref a, .int (iZ L0), .int (iZ T0)])), (a, .inr (3, [.ref b, .int (iZ n)])), (b, .inl (G.2 0, 48, .inl (iF f)))]) := by
  refine Ctr.go (own := RX2) (nm := "keep") (by decide +kernel) rfl rfl [some (.ref h), some (.ref w)] 0 rfl rfl (Nat.le_of_ble_eq_true rfl) ?_
  intro K h hF
  rcases (show c = 5 ∨ c = 0 ∨ c = 1 ∨ c = 2 ∨ c = 3 ∨ c = 4 by omega) with rfl | rfl | rfl | rfl | rfl | rfl
  · refine V_aload_n h (dk dd_X2_keep_0 0 rfl) rfl get0 ?_
    refine V_get h fl_X2_18 0 get0 get1 (dk dd_X2_keep_0 1 rfl) ?_
    refine V_iconst h (dk dd_X2_keep_0 2 rfl) ?_
    refine V_icmp_lt (tgt := 12) h (dk dd_X2_keep_0 3 rfl) rfl (by omega) (fun c5 => ?_) (fun c5 => ?_)
    · exfalso; omega
    · refine V_aload_n h (dk dd_X2_keep_0 4 rfl) rfl get0 ?_
      refine V_callV h st1 ci_X2_22 (pk_c get0 (pk_c get1 (pk_c get2 (pk_c get3 (pk_c get4 (pk_c get5 (pk_c get6 (pk_c get7 (pk_c get8 (pk_c get9 (pk_c get10 (pk_c get11 (pk_c get12 (pk_c get13 (pk_c get14 (pk_c get15 (pk_c get16 pk_n))))))))))))))))) rfl 0 get0 rfl (m_X2_dropOldest l G _ _ _ _ _ _ _ _ _ _ ) rfl rfl (Nat.le_of_ble_eq_true rfl) (by decide) ⟨rfl, rfl, rfl⟩ (dk dd_X2_keep_0 5 rfl) sk0 (sm_c set0 (sm_c set1 (sm_c set2 (sm_c set3 (sm_c set4 (sm_c set5 (sm_c set6 (sm_c set7 (sm_c set8 (sm_c set9 (sm_c set10 (sm_c set11 (sm_c set12 (sm_c set13 (sm_c set14 (sm_c set15 (sm_c set16 sm_n))))))))))))))))) ?_
      refine V_aload_n h (dk dd_X2_keep_0 6 rfl) rfl get0 ?_
      refine V_get h fl_X2_11 0 get0 get0 (dk dd_X2_keep_0 7 rfl) ?_
      refine V_aload_n h (dk dd_X2_keep_0 8 rfl) rfl get0 ?_
      refine V_get h fl_X2_18 0 get0 get1 (dk dd_X2_keep_0 9 rfl) ?_
      refine V_aald (b := ((rot5 wa) 4)) h 1 5 get1 rfl (by omega) (rfl) (dk dd_X2_keep_0 10 rfl) ?_
      refine V_aload_n h (dk dd_X2_keep_0 11 rfl) rfl get1 ?_
      refine V_callV h st2 ci_X2_25 (pk_c get14 (pk_c get15 (pk_c get16 (pk_c get17 (pk_c get18 (pk_c get19 pk_n)))))) rfl 14 get14 rfl (m_X10_copyFrom l G _ _ _ _ _ _ _ _ _ _ _ _ _ _ (by omega)) rfl rfl (Nat.le_of_ble_eq_true rfl) (by decide) ⟨rfl, rfl, rfl⟩ (dk dd_X2_keep_0 12 rfl) sk0 (sm_c set14 (sm_c set15 (sm_c set16 (sm_c set17 (sm_c set18 (sm_c set19 sm_n)))))) ?_
      refine V_aload_n h (dk dd_X2_keep_0 13 rfl) rfl get0 ?_
      refine V_dup h (dk dd_X2_keep_0 14 rfl) rfl ?_
      refine V_get h fl_X2_18 0 get0 get1 (dk dd_X2_keep_0 15 rfl) ?_
      refine V_iconst h (dk dd_X2_keep_0 16 rfl) ?_
      refine V_iadd h (dk dd_X2_keep_0 17 rfl) ?_
      refine V_put h pf_X2_18 0 get0 (Nat.le_of_ble_eq_true rfl) set1 set0 rfl rfl (dk dd_X2_keep_0 18 rfl) ?_
      refine V_vret h hF (dk dd_X2_keep_0 19 rfl) ⟨Nat.le_of_ble_eq_true rfl, Nat.le_of_ble_eq_true rfl⟩ ?_
      exact det_v rfl
  · refine V_aload_n h (dk dd_X2_keep_0 0 rfl) rfl get0 ?_
    refine V_get h fl_X2_18 0 get0 get1 (dk dd_X2_keep_0 1 rfl) ?_
    refine V_iconst h (dk dd_X2_keep_0 2 rfl) ?_
    refine V_icmp_lt (tgt := 12) h (dk dd_X2_keep_0 3 rfl) rfl (by omega) (fun c5 => ?_) (fun c5 => ?_)
    · refine V_aload_n h (dk dd_X2_keep_0 6 rfl) rfl get0 ?_
      refine V_get h fl_X2_11 0 get0 get0 (dk dd_X2_keep_0 7 rfl) ?_
      refine V_aload_n h (dk dd_X2_keep_0 8 rfl) rfl get0 ?_
      refine V_get h fl_X2_18 0 get0 get1 (dk dd_X2_keep_0 9 rfl) ?_
      refine V_aald (b := (wa 0)) h 1 5 get1 rfl (by omega) (rfl) (dk dd_X2_keep_0 10 rfl) ?_
      refine V_aload_n h (dk dd_X2_keep_0 11 rfl) rfl get1 ?_
      refine V_callV h st2 ci_X2_25 (pk_c get2 (pk_c get3 (pk_c get4 (pk_c get17 (pk_c get18 (pk_c get19 pk_n)))))) rfl 2 get2 rfl (m_X10_copyFrom l G _ _ _ _ _ _ _ _ _ _ _ _ _ _ (by omega)) rfl rfl (Nat.le_of_ble_eq_true rfl) (by decide) ⟨rfl, rfl, rfl⟩ (dk dd_X2_keep_0 12 rfl) sk0 (sm_c set2 (sm_c set3 (sm_c set4 (sm_c set17 (sm_c set18 (sm_c set19 sm_n)))))) ?_
      refine V_aload_n h (dk dd_X2_keep_0 13 rfl) rfl get0 ?_
      refine V_dup h (dk dd_X2_keep_0 14 rfl) rfl ?_
      refine V_get h fl_X2_18 0 get0 get1 (dk dd_X2_keep_0 15 rfl) ?_
      refine V_iconst h (dk dd_X2_keep_0 16 rfl) ?_
      refine V_iadd h (dk dd_X2_keep_0 17 rfl) ?_
      refine V_put h pf_X2_18 0 get0 (Nat.le_of_ble_eq_true rfl) set1 set0 rfl rfl (dk dd_X2_keep_0 18 rfl) ?_
      refine V_vret h hF (dk dd_X2_keep_0 19 rfl) ⟨Nat.le_of_ble_eq_true rfl, Nat.le_of_ble_eq_true rfl⟩ ?_
      exact det_v rfl
    · exfalso; omega
  · refine V_aload_n h (dk dd_X2_keep_0 0 rfl) rfl get0 ?_
    refine V_get h fl_X2_18 0 get0 get1 (dk dd_X2_keep_0 1 rfl) ?_
    refine V_iconst h (dk dd_X2_keep_0 2 rfl) ?_
    refine V_icmp_lt (tgt := 12) h (dk dd_X2_keep_0 3 rfl) rfl (by omega) (fun c5 => ?_) (fun c5 => ?_)
    · refine V_aload_n h (dk dd_X2_keep_0 6 rfl) rfl get0 ?_
      refine V_get h fl_X2_11 0 get0 get0 (dk dd_X2_keep_0 7 rfl) ?_
      refine V_aload_n h (dk dd_X2_keep_0 8 rfl) rfl get0 ?_
      refine V_get h fl_X2_18 0 get0 get1 (dk dd_X2_keep_0 9 rfl) ?_
      refine V_aald (b := (wa 1)) h 1 5 get1 rfl (by omega) (rfl) (dk dd_X2_keep_0 10 rfl) ?_
      refine V_aload_n h (dk dd_X2_keep_0 11 rfl) rfl get1 ?_
      refine V_callV h st2 ci_X2_25 (pk_c get5 (pk_c get6 (pk_c get7 (pk_c get17 (pk_c get18 (pk_c get19 pk_n)))))) rfl 5 get5 rfl (m_X10_copyFrom l G _ _ _ _ _ _ _ _ _ _ _ _ _ _ (by omega)) rfl rfl (Nat.le_of_ble_eq_true rfl) (by decide) ⟨rfl, rfl, rfl⟩ (dk dd_X2_keep_0 12 rfl) sk0 (sm_c set5 (sm_c set6 (sm_c set7 (sm_c set17 (sm_c set18 (sm_c set19 sm_n)))))) ?_
      refine V_aload_n h (dk dd_X2_keep_0 13 rfl) rfl get0 ?_
      refine V_dup h (dk dd_X2_keep_0 14 rfl) rfl ?_
      refine V_get h fl_X2_18 0 get0 get1 (dk dd_X2_keep_0 15 rfl) ?_
      refine V_iconst h (dk dd_X2_keep_0 16 rfl) ?_
      refine V_iadd h (dk dd_X2_keep_0 17 rfl) ?_
      refine V_put h pf_X2_18 0 get0 (Nat.le_of_ble_eq_true rfl) set1 set0 rfl rfl (dk dd_X2_keep_0 18 rfl) ?_
      refine V_vret h hF (dk dd_X2_keep_0 19 rfl) ⟨Nat.le_of_ble_eq_true rfl, Nat.le_of_ble_eq_true rfl⟩ ?_
      exact det_v rfl
    · exfalso; omega
  · refine V_aload_n h (dk dd_X2_keep_0 0 rfl) rfl get0 ?_
    refine V_get h fl_X2_18 0 get0 get1 (dk dd_X2_keep_0 1 rfl) ?_
    refine V_iconst h (dk dd_X2_keep_0 2 rfl) ?_
    refine V_icmp_lt (tgt := 12) h (dk dd_X2_keep_0 3 rfl) rfl (by omega) (fun c5 => ?_) (fun c5 => ?_)
    · refine V_aload_n h (dk dd_X2_keep_0 6 rfl) rfl get0 ?_
      refine V_get h fl_X2_11 0 get0 get0 (dk dd_X2_keep_0 7 rfl) ?_
      refine V_aload_n h (dk dd_X2_keep_0 8 rfl) rfl get0 ?_
      refine V_get h fl_X2_18 0 get0 get1 (dk dd_X2_keep_0 9 rfl) ?_
      refine V_aald (b := (wa 2)) h 1 5 get1 rfl (by omega) (rfl) (dk dd_X2_keep_0 10 rfl) ?_
      refine V_aload_n h (dk dd_X2_keep_0 11 rfl) rfl get1 ?_
      refine V_callV h st2 ci_X2_25 (pk_c get8 (pk_c get9 (pk_c get10 (pk_c get17 (pk_c get18 (pk_c get19 pk_n)))))) rfl 8 get8 rfl (m_X10_copyFrom l G _ _ _ _ _ _ _ _ _ _ _ _ _ _ (by omega)) rfl rfl (Nat.le_of_ble_eq_true rfl) (by decide) ⟨rfl, rfl, rfl⟩ (dk dd_X2_keep_0 12 rfl) sk0 (sm_c set8 (sm_c set9 (sm_c set10 (sm_c set17 (sm_c set18 (sm_c set19 sm_n)))))) ?_
      refine V_aload_n h (dk dd_X2_keep_0 13 rfl) rfl get0 ?_
      refine V_dup h (dk dd_X2_keep_0 14 rfl) rfl ?_
      refine V_get h fl_X2_18 0 get0 get1 (dk dd_X2_keep_0 15 rfl) ?_
      refine V_iconst h (dk dd_X2_keep_0 16 rfl) ?_
      refine V_iadd h (dk dd_X2_keep_0 17 rfl) ?_
      refine V_put h pf_X2_18 0 get0 (Nat.le_of_ble_eq_true rfl) set1 set0 rfl rfl (dk dd_X2_keep_0 18 rfl) ?_
      refine V_vret h hF (dk dd_X2_keep_0 19 rfl) ⟨Nat.le_of_ble_eq_true rfl, Nat.le_of_ble_eq_true rfl⟩ ?_
      exact det_v rfl
    · exfalso; omega
  · refine V_aload_n h (dk dd_X2_keep_0 0 rfl) rfl get0 ?_
    refine V_get h fl_X2_18 0 get0 get1 (dk dd_X2_keep_0 1 rfl) ?_
    refine V_iconst h (dk dd_X2_keep_0 2 rfl) ?_
    refine V_icmp_lt (tgt := 12) h (dk dd_X2_keep_0 3 rfl) rfl (by omega) (fun c5 => ?_) (fun c5 => ?_)
    · refine V_aload_n h (dk dd_X2_keep_0 6 rfl) rfl get0 ?_
      refine V_get h fl_X2_11 0 get0 get0 (dk dd_X2_keep_0 7 rfl) ?_
      refine V_aload_n h (dk dd_X2_keep_0 8 rfl) rfl get0 ?_
      refine V_get h fl_X2_18 0 get0 get1 (dk dd_X2_keep_0 9 rfl) ?_
      refine V_aald (b := (wa 3)) h 1 5 get1 rfl (by omega) (rfl) (dk dd_X2_keep_0 10 rfl) ?_
      refine V_aload_n h (dk dd_X2_keep_0 11 rfl) rfl get1 ?_
      refine V_callV h st2 ci_X2_25 (pk_c get11 (pk_c get12 (pk_c get13 (pk_c get17 (pk_c get18 (pk_c get19 pk_n)))))) rfl 11 get11 rfl (m_X10_copyFrom l G _ _ _ _ _ _ _ _ _ _ _ _ _ _ (by omega)) rfl rfl (Nat.le_of_ble_eq_true rfl) (by decide) ⟨rfl, rfl, rfl⟩ (dk dd_X2_keep_0 12 rfl) sk0 (sm_c set11 (sm_c set12 (sm_c set13 (sm_c set17 (sm_c set18 (sm_c set19 sm_n)))))) ?_
      refine V_aload_n h (dk dd_X2_keep_0 13 rfl) rfl get0 ?_
      refine V_dup h (dk dd_X2_keep_0 14 rfl) rfl ?_
      refine V_get h fl_X2_18 0 get0 get1 (dk dd_X2_keep_0 15 rfl) ?_
      refine V_iconst h (dk dd_X2_keep_0 16 rfl) ?_
      refine V_iadd h (dk dd_X2_keep_0 17 rfl) ?_
      refine V_put h pf_X2_18 0 get0 (Nat.le_of_ble_eq_true rfl) set1 set0 rfl rfl (dk dd_X2_keep_0 18 rfl) ?_
      refine V_vret h hF (dk dd_X2_keep_0 19 rfl) ⟨Nat.le_of_ble_eq_true rfl, Nat.le_of_ble_eq_true rfl⟩ ?_
      exact det_v rfl
    · exfalso; omega
  · refine V_aload_n h (dk dd_X2_keep_0 0 rfl) rfl get0 ?_
    refine V_get h fl_X2_18 0 get0 get1 (dk dd_X2_keep_0 1 rfl) ?_
    refine V_iconst h (dk dd_X2_keep_0 2 rfl) ?_
    refine V_icmp_lt (tgt := 12) h (dk dd_X2_keep_0 3 rfl) rfl (by omega) (fun c5 => ?_) (fun c5 => ?_)
    · refine V_aload_n h (dk dd_X2_keep_0 6 rfl) rfl get0 ?_
      refine V_get h fl_X2_11 0 get0 get0 (dk dd_X2_keep_0 7 rfl) ?_
      refine V_aload_n h (dk dd_X2_keep_0 8 rfl) rfl get0 ?_
      refine V_get h fl_X2_18 0 get0 get1 (dk dd_X2_keep_0 9 rfl) ?_
      refine V_aald (b := (wa 4)) h 1 5 get1 rfl (by omega) (rfl) (dk dd_X2_keep_0 10 rfl) ?_
      refine V_aload_n h (dk dd_X2_keep_0 11 rfl) rfl get1 ?_
      refine V_callV h st2 ci_X2_25 (pk_c get14 (pk_c get15 (pk_c get16 (pk_c get17 (pk_c get18 (pk_c get19 pk_n)))))) rfl 14 get14 rfl (m_X10_copyFrom l G _ _ _ _ _ _ _ _ _ _ _ _ _ _ (by omega)) rfl rfl (Nat.le_of_ble_eq_true rfl) (by decide) ⟨rfl, rfl, rfl⟩ (dk dd_X2_keep_0 12 rfl) sk0 (sm_c set14 (sm_c set15 (sm_c set16 (sm_c set17 (sm_c set18 (sm_c set19 sm_n)))))) ?_
      refine V_aload_n h (dk dd_X2_keep_0 13 rfl) rfl get0 ?_
      refine V_dup h (dk dd_X2_keep_0 14 rfl) rfl ?_
      refine V_get h fl_X2_18 0 get0 get1 (dk dd_X2_keep_0 15 rfl) ?_
      refine V_iconst h (dk dd_X2_keep_0 16 rfl) ?_
      refine V_iadd h (dk dd_X2_keep_0 17 rfl) ?_
      refine V_put h pf_X2_18 0 get0 (Nat.le_of_ble_eq_true rfl) set1 set0 rfl rfl (dk dd_X2_keep_0 18 rfl) ?_
      refine V_vret h hF (dk dd_X2_keep_0 19 rfl) ⟨Nat.le_of_ble_eq_true rfl, Nat.le_of_ble_eq_true rfl⟩ ?_
      exact det_v rfl
    · exfalso; omega

set_option maxHeartbeats 4000000 in
set_option maxRecDepth 100000 in
theorem m_X2_restore (l : Launch) (G : GT) (h sa : Nat) (wa pa aa : Nat → Nat) (N L T : Nat → Int) (F : Nat → Int → Int) (c : Int) (w a b : Nat) (n L0 T0 : Int) (f : Int → Int) (hc : 1 ≤ c ∧ c ≤ 5) (hn : 0 ≤ N (c - 1).toNat ∧ N (c - 1).toNat ≤ 12) : Ctr l G yX2_restore cX2_restore 2 none (rmO 3 0 0 60) [.ref h, .ref w] [(h, .inr (1, [.ref sa, .int (iZ c)])), (sa, .inl (G.2 5, 5, .inr (.inr (.inr (.inr (arr5 wa)))))), ((wa 0), .inr (9, [.ref (pa 0), .int (iZ (L 0)), .int (iZ (T 0))])), ((pa 0), .inr (3, [.ref (aa 0), .int (iZ (N 0))])), ((aa 0), .inl (G.2 0, 48, .inl (iF (F 0)))), ((wa 1), .inr (9, [.ref (pa 1), .int (iZ (L 1)), .int (iZ (T 1))])), ((pa 1), .inr (3, [.ref (aa 1), .int (iZ (N 1))])), ((aa 1), .inl (G.2 0, 48, .inl (iF (F 1)))), ((wa 2), .inr (9, [.ref (pa 2), .int (iZ (L 2)), .int (iZ (T 2))])), ((pa 2), .inr (3, [.ref (aa 2), .int (iZ (N 2))])), ((aa 2), .inl (G.2 0, 48, .inl (iF (F 2)))), ((wa 3), .inr (9, [.ref (pa 3), .int (iZ (L 3)), .int (iZ (T 3))])), ((pa 3), .inr (3, [.ref (aa 3), .int (iZ (N 3))])), ((aa 3), .inl (G.2 0, 48, .inl (iF (F 3)))), ((wa 4), .inr (9, [.ref (pa 4), .int (iZ (L 4)), .int (iZ (T 4))])), ((pa 4), .inr (3, [.ref (aa 4), .int (iZ (N 4))])), ((aa 4), .inl (G.2 0, 48, .inl (iF (F 4)))), (w, .inr (9, [.ref a, .int (iZ L0), .int (iZ T0)])), (a, .inr (3, [.ref b, .int (iZ n)])), (b, .inl (G.2 0, 48, .inl (iF f)))] (Det none [(h, .inr (1, [.ref sa, .int (iZ (c - 1))])), (sa, .inl (G.2 5, 5, .inr (.inr (.inr (.inr (arr5 wa)))))), ((wa 0), .inr (9, [.ref (pa 0), .int (iZ (L 0)), .int (iZ (T 0))])), ((pa 0), .inr (3, [.ref (aa 0), .int (iZ (N 0))])), ((aa 0), .inl (G.2 0, 48, .inl (iF (F 0)))), ((wa 1), .inr (9, [.ref (pa 1), .int (iZ (L 1)), .int (iZ (T 1))])), ((pa 1), .inr (3, [.ref (aa 1), .int (iZ (N 1))])), ((aa 1), .inl (G.2 0, 48, .inl (iF (F 1)))), ((wa 2), .inr (9, [.ref (pa 2), .int (iZ (L 2)), .int (iZ (T 2))])), ((pa 2), .inr (3, [.ref (aa 2), .int (iZ (N 2))])), ((aa 2), .inl (G.2 0, 48, .inl (iF (F 2)))), ((wa 3), .inr (9, [.ref (pa 3), .int (iZ (L 3)), .int (iZ (T 3))])), ((pa 3), .inr (3, [.ref (aa 3), .int (iZ (N 3))])), ((aa 3), .inl (G.2 0, 48, .inl (iF (F 3)))), ((wa 4), .inr (9, [.ref (pa 4), .int (iZ (L 4)), .int (iZ (T 4))])), ((pa 4), .inr (3, [.ref (aa 4), .int (iZ (N 4))])), ((aa 4), .inl (G.2 0, 48, .inl (iF (F 4)))), (w, .inr (9, [.ref a, .int (iZ (L (c - 1).toNat)), .int (iZ (T (c - 1).toNat))])), (a, .inr (3, [.ref b, .int (iZ (N (c - 1).toNat))])), (b, .inl (G.2 0, 48, .inl (iF (cpyF (F (c - 1).toNat) f 0 0 (N (c - 1).toNat * 4)))))]) := by
  refine Ctr.go (own := RX2) (nm := "restore") (by decide +kernel) rfl rfl [some (.ref h), some (.ref w)] 0 rfl rfl (Nat.le_of_ble_eq_true rfl) ?_
  intro K h hF
  rcases (show c = 1 ∨ c = 2 ∨ c = 3 ∨ c = 4 ∨ c = 5 by omega) with rfl | rfl | rfl | rfl | rfl
  · refine V_aload_n h (dk dd_X2_restore_0 0 rfl) rfl get0 ?_
    refine V_get h fl_X2_18 0 get0 get1 (dk dd_X2_restore_0 1 rfl) ?_
    refine V_iconst h (dk dd_X2_restore_0 2 rfl) ?_
    refine V_icmp_ge (tgt := 9) h (dk dd_X2_restore_0 3 rfl) rfl (by omega) (fun c5 => ?_) (fun c5 => ?_)
    · refine V_aload_n h (dk dd_X2_restore_0 5 rfl) rfl get0 ?_
      refine V_dup h (dk dd_X2_restore_0 6 rfl) rfl ?_
      refine V_get h fl_X2_18 0 get0 get1 (dk dd_X2_restore_0 7 rfl) ?_
      refine V_iconst h (dk dd_X2_restore_0 8 rfl) ?_
      refine V_isub h (dk dd_X2_restore_0 9 rfl) ?_
      refine V_put h pf_X2_18 0 get0 (Nat.le_of_ble_eq_true rfl) set1 set0 rfl rfl (dk dd_X2_restore_0 10 rfl) ?_
      refine V_aload_n h (dk dd_X2_restore_0 11 rfl) rfl get1 ?_
      refine V_aload_n h (dk dd_X2_restore_0 12 rfl) rfl get0 ?_
      refine V_get h fl_X2_11 0 get0 get0 (dk dd_X2_restore_0 13 rfl) ?_
      refine V_aload_n h (dk dd_X2_restore_0 14 rfl) rfl get0 ?_
      refine V_get h fl_X2_18 0 get0 get1 (dk dd_X2_restore_0 15 rfl) ?_
      refine V_aald (b := (wa 0)) h 1 5 get1 rfl (by omega) (rfl) (dk dd_X2_restore_0 16 rfl) ?_
      refine V_callV h st2 ci_X2_25 (pk_c get17 (pk_c get18 (pk_c get19 (pk_c get2 (pk_c get3 (pk_c get4 pk_n)))))) rfl 17 get17 rfl (m_X10_copyFrom l G _ _ _ _ _ _ _ _ _ _ _ _ _ _ (hn)) rfl rfl (Nat.le_of_ble_eq_true rfl) (by decide) ⟨rfl, rfl, rfl⟩ (dk dd_X2_restore_0 17 rfl) sk0 (sm_c set17 (sm_c set18 (sm_c set19 (sm_c set2 (sm_c set3 (sm_c set4 sm_n)))))) ?_
      refine V_vret h hF (dk dd_X2_restore_0 18 rfl) ⟨Nat.le_of_ble_eq_true rfl, Nat.le_of_ble_eq_true rfl⟩ ?_
      exact det_v rfl
    · exfalso; omega
  · refine V_aload_n h (dk dd_X2_restore_0 0 rfl) rfl get0 ?_
    refine V_get h fl_X2_18 0 get0 get1 (dk dd_X2_restore_0 1 rfl) ?_
    refine V_iconst h (dk dd_X2_restore_0 2 rfl) ?_
    refine V_icmp_ge (tgt := 9) h (dk dd_X2_restore_0 3 rfl) rfl (by omega) (fun c5 => ?_) (fun c5 => ?_)
    · refine V_aload_n h (dk dd_X2_restore_0 5 rfl) rfl get0 ?_
      refine V_dup h (dk dd_X2_restore_0 6 rfl) rfl ?_
      refine V_get h fl_X2_18 0 get0 get1 (dk dd_X2_restore_0 7 rfl) ?_
      refine V_iconst h (dk dd_X2_restore_0 8 rfl) ?_
      refine V_isub h (dk dd_X2_restore_0 9 rfl) ?_
      refine V_put h pf_X2_18 0 get0 (Nat.le_of_ble_eq_true rfl) set1 set0 rfl rfl (dk dd_X2_restore_0 10 rfl) ?_
      refine V_aload_n h (dk dd_X2_restore_0 11 rfl) rfl get1 ?_
      refine V_aload_n h (dk dd_X2_restore_0 12 rfl) rfl get0 ?_
      refine V_get h fl_X2_11 0 get0 get0 (dk dd_X2_restore_0 13 rfl) ?_
      refine V_aload_n h (dk dd_X2_restore_0 14 rfl) rfl get0 ?_
      refine V_get h fl_X2_18 0 get0 get1 (dk dd_X2_restore_0 15 rfl) ?_
      refine V_aald (b := (wa 1)) h 1 5 get1 rfl (by omega) (rfl) (dk dd_X2_restore_0 16 rfl) ?_
      refine V_callV h st2 ci_X2_25 (pk_c get17 (pk_c get18 (pk_c get19 (pk_c get5 (pk_c get6 (pk_c get7 pk_n)))))) rfl 17 get17 rfl (m_X10_copyFrom l G _ _ _ _ _ _ _ _ _ _ _ _ _ _ (hn)) rfl rfl (Nat.le_of_ble_eq_true rfl) (by decide) ⟨rfl, rfl, rfl⟩ (dk dd_X2_restore_0 17 rfl) sk0 (sm_c set17 (sm_c set18 (sm_c set19 (sm_c set5 (sm_c set6 (sm_c set7 sm_n)))))) ?_
      refine V_vret h hF (dk dd_X2_restore_0 18 rfl) ⟨Nat.le_of_ble_eq_true rfl, Nat.le_of_ble_eq_true rfl⟩ ?_
      exact det_v rfl
    · exfalso; omega
  · refine V_aload_n h (dk dd_X2_restore_0 0 rfl) rfl get0 ?_
    refine V_get h fl_X2_18 0 get0 get1 (dk dd_X2_restore_0 1 rfl) ?_
    refine V_iconst h (dk dd_X2_restore_0 2 rfl) ?_
    refine V_icmp_ge (tgt := 9) h (dk dd_X2_restore_0 3 rfl) rfl (by omega) (fun c5 => ?_) (fun c5 => ?_)
    · refine V_aload_n h (dk dd_X2_restore_0 5 rfl) rfl get0 ?_
      refine V_dup h (dk dd_X2_restore_0 6 rfl) rfl ?_
      refine V_get h fl_X2_18 0 get0 get1 (dk dd_X2_restore_0 7 rfl) ?_
      refine V_iconst h (dk dd_X2_restore_0 8 rfl) ?_
      refine V_isub h (dk dd_X2_restore_0 9 rfl) ?_
      refine V_put h pf_X2_18 0 get0 (Nat.le_of_ble_eq_true rfl) set1 set0 rfl rfl (dk dd_X2_restore_0 10 rfl) ?_
      refine V_aload_n h (dk dd_X2_restore_0 11 rfl) rfl get1 ?_
      refine V_aload_n h (dk dd_X2_restore_0 12 rfl) rfl get0 ?_
      refine V_get h fl_X2_11 0 get0 get0 (dk dd_X2_restore_0 13 rfl) ?_
      refine V_aload_n h (dk dd_X2_restore_0 14 rfl) rfl get0 ?_
      refine V_get h fl_X2_18 0 get0 get1 (dk dd_X2_restore_0 15 rfl) ?_
      refine V_aald (b := (wa 2)) h 1 5 get1 rfl (by omega) (rfl) (dk dd_X2_restore_0 16 rfl) ?_
      refine V_callV h st2 ci_X2_25 (pk_c get17 (pk_c get18 (pk_c get19 (pk_c get8 (pk_c get9 (pk_c get10 pk_n)))))) rfl 17 get17 rfl (m_X10_copyFrom l G _ _ _ _ _ _ _ _ _ _ _ _ _ _ (hn)) rfl rfl (Nat.le_of_ble_eq_true rfl) (by decide) ⟨rfl, rfl, rfl⟩ (dk dd_X2_restore_0 17 rfl) sk0 (sm_c set17 (sm_c set18 (sm_c set19 (sm_c set8 (sm_c set9 (sm_c set10 sm_n)))))) ?_
      refine V_vret h hF (dk dd_X2_restore_0 18 rfl) ⟨Nat.le_of_ble_eq_true rfl, Nat.le_of_ble_eq_true rfl⟩ ?_
      exact det_v rfl
    · exfalso; omega
  · refine V_aload_n h (dk dd_X2_restore_0 0 rfl) rfl get0 ?_
    refine V_get h fl_X2_18 0 get0 get1 (dk dd_X2_restore_0 1 rfl) ?_
    refine V_iconst h (dk dd_X2_restore_0 2 rfl) ?_
    refine V_icmp_ge (tgt := 9) h (dk dd_X2_restore_0 3 rfl) rfl (by omega) (fun c5 => ?_) (fun c5 => ?_)
    · refine V_aload_n h (dk dd_X2_restore_0 5 rfl) rfl get0 ?_
      refine V_dup h (dk dd_X2_restore_0 6 rfl) rfl ?_
      refine V_get h fl_X2_18 0 get0 get1 (dk dd_X2_restore_0 7 rfl) ?_
      refine V_iconst h (dk dd_X2_restore_0 8 rfl) ?_
      refine V_isub h (dk dd_X2_restore_0 9 rfl) ?_
      refine V_put h pf_X2_18 0 get0 (Nat.le_of_ble_eq_true rfl) set1 set0 rfl rfl (dk dd_X2_restore_0 10 rfl) ?_
      refine V_aload_n h (dk dd_X2_restore_0 11 rfl) rfl get1 ?_
      refine V_aload_n h (dk dd_X2_restore_0 12 rfl) rfl get0 ?_
      refine V_get h fl_X2_11 0 get0 get0 (dk dd_X2_restore_0 13 rfl) ?_
      refine V_aload_n h (dk dd_X2_restore_0 14 rfl) rfl get0 ?_
      refine V_get h fl_X2_18 0 get0 get1 (dk dd_X2_restore_0 15 rfl) ?_
      refine V_aald (b := (wa 3)) h 1 5 get1 rfl (by omega) (rfl) (dk dd_X2_restore_0 16 rfl) ?_
      refine V_callV h st2 ci_X2_25 (pk_c get17 (pk_c get18 (pk_c get19 (pk_c get11 (pk_c get12 (pk_c get13 pk_n)))))) rfl 17 get17 rfl (m_X10_copyFrom l G _ _ _ _ _ _ _ _ _ _ _ _ _ _ (hn)) rfl rfl (Nat.le_of_ble_eq_true rfl) (by decide) ⟨rfl, rfl, rfl⟩ (dk dd_X2_restore_0 17 rfl) sk0 (sm_c set17 (sm_c set18 (sm_c set19 (sm_c set11 (sm_c set12 (sm_c set13 sm_n)))))) ?_
      refine V_vret h hF (dk dd_X2_restore_0 18 rfl) ⟨Nat.le_of_ble_eq_true rfl, Nat.le_of_ble_eq_true rfl⟩ ?_
      exact det_v rfl
    · exfalso; omega
  · refine V_aload_n h (dk dd_X2_restore_0 0 rfl) rfl get0 ?_
    refine V_get h fl_X2_18 0 get0 get1 (dk dd_X2_restore_0 1 rfl) ?_
    refine V_iconst h (dk dd_X2_restore_0 2 rfl) ?_
    refine V_icmp_ge (tgt := 9) h (dk dd_X2_restore_0 3 rfl) rfl (by omega) (fun c5 => ?_) (fun c5 => ?_)
    · refine V_aload_n h (dk dd_X2_restore_0 5 rfl) rfl get0 ?_
      refine V_dup h (dk dd_X2_restore_0 6 rfl) rfl ?_
      refine V_get h fl_X2_18 0 get0 get1 (dk dd_X2_restore_0 7 rfl) ?_
      refine V_iconst h (dk dd_X2_restore_0 8 rfl) ?_
      refine V_isub h (dk dd_X2_restore_0 9 rfl) ?_
      refine V_put h pf_X2_18 0 get0 (Nat.le_of_ble_eq_true rfl) set1 set0 rfl rfl (dk dd_X2_restore_0 10 rfl) ?_
      refine V_aload_n h (dk dd_X2_restore_0 11 rfl) rfl get1 ?_
      refine V_aload_n h (dk dd_X2_restore_0 12 rfl) rfl get0 ?_
      refine V_get h fl_X2_11 0 get0 get0 (dk dd_X2_restore_0 13 rfl) ?_
      refine V_aload_n h (dk dd_X2_restore_0 14 rfl) rfl get0 ?_
      refine V_get h fl_X2_18 0 get0 get1 (dk dd_X2_restore_0 15 rfl) ?_
      refine V_aald (b := (wa 4)) h 1 5 get1 rfl (by omega) (rfl) (dk dd_X2_restore_0 16 rfl) ?_
      refine V_callV h st2 ci_X2_25 (pk_c get17 (pk_c get18 (pk_c get19 (pk_c get14 (pk_c get15 (pk_c get16 pk_n)))))) rfl 17 get17 rfl (m_X10_copyFrom l G _ _ _ _ _ _ _ _ _ _ _ _ _ _ (hn)) rfl rfl (Nat.le_of_ble_eq_true rfl) (by decide) ⟨rfl, rfl, rfl⟩ (dk dd_X2_restore_0 17 rfl) sk0 (sm_c set17 (sm_c set18 (sm_c set19 (sm_c set14 (sm_c set15 (sm_c set16 sm_n)))))) ?_
      refine V_vret h hF (dk dd_X2_restore_0 18 rfl) ⟨Nat.le_of_ble_eq_true rfl, Nat.le_of_ble_eq_true rfl⟩ ?_
      exact det_v rfl
    · exfalso; omega

