/-! the JDK's own, and Circle -/
set_option maxHeartbeats 4000000 in
set_option maxRecDepth 100000 in
theorem m_J9_abs_0f7a4 (l : Launch) (G : GT) (a : Int) (ha : R32 a) : Ctr l G yJ9_abs_0f7a4 cJ9_abs_0f7a4 1 (Option.some FieldType.int) (rmO 0 0 0 0) [.int (iZ a)] [] (Det (some (.int (iZ (a.natAbs : Int)))) []) := by
  refine Ctr.go (own := RJ9) (nm := "abs") (by decide +kernel) rfl rfl [some (.int (iZ a))] 0 rfl rfl (Nat.le_of_ble_eq_true rfl) ?_
  intro K h hF
  refine V_iload_n h (dk dd_J9_abs_0f7a4_0 0 rfl) rfl get0 ?_
  refine V_if_ge (tgt := 9) h (dk dd_J9_abs_0f7a4_0 1 rfl) rfl (by omega) (fun c1 => ?_) (fun c1 => ?_)
  · refine V_iload_n h (dk dd_J9_abs_0f7a4_0 5 rfl) rfl get0 ?_
    refine V_iret h hF (dk dd_J9_abs_0f7a4_0 6 rfl) ⟨Nat.le_of_ble_eq_true rfl, Nat.le_of_ble_eq_true rfl⟩ ?_
    exact det_i (by first | rfl | omega) rfl
  · refine V_iload_n h (dk dd_J9_abs_0f7a4_0 2 rfl) rfl get0 ?_
    refine V_ineg h (dk dd_J9_abs_0f7a4_0 3 rfl) ?_
    refine V_goto (tgt := 10) h (dk dd_J9_abs_0f7a4_0 4 rfl) rfl ?_
    refine V_iret h hF (dk dd_J9_abs_0f7a4_0 6 rfl) ⟨Nat.le_of_ble_eq_true rfl, Nat.le_of_ble_eq_true rfl⟩ ?_
    exact det_i (by first | rfl | omega) rfl

set_option maxHeartbeats 4000000 in
set_option maxRecDepth 100000 in
theorem m_J9_max_7cf53 (l : Launch) (G : GT) (a b : Int) (ha : R32 a) (hb : R32 b) : Ctr l G yJ9_max_7cf53 cJ9_max_7cf53 2 (Option.some FieldType.int) (rmO 0 0 0 0) [.int (iZ a), .int (iZ b)] [] (Det (some (.int (iZ (max a b)))) []) := by
  refine Ctr.go (own := RJ9) (nm := "max") (by decide +kernel) rfl rfl [some (.int (iZ a)), some (.int (iZ b))] 0 rfl rfl (Nat.le_of_ble_eq_true rfl) ?_
  intro K h hF
  refine V_iload_n h (dk dd_J9_max_7cf53_0 0 rfl) rfl get0 ?_
  refine V_iload_n h (dk dd_J9_max_7cf53_0 1 rfl) rfl get1 ?_
  refine V_icmp_lt (tgt := 9) h (dk dd_J9_max_7cf53_0 2 rfl) rfl (by omega) (fun c2 => ?_) (fun c2 => ?_)
  · refine V_iload_n h (dk dd_J9_max_7cf53_0 5 rfl) rfl get1 ?_
    refine V_iret h hF (dk dd_J9_max_7cf53_0 6 rfl) ⟨Nat.le_of_ble_eq_true rfl, Nat.le_of_ble_eq_true rfl⟩ ?_
    exact det_i (by first | rfl | omega) rfl
  · refine V_iload_n h (dk dd_J9_max_7cf53_0 3 rfl) rfl get0 ?_
    refine V_goto (tgt := 10) h (dk dd_J9_max_7cf53_0 4 rfl) rfl ?_
    refine V_iret h hF (dk dd_J9_max_7cf53_0 6 rfl) ⟨Nat.le_of_ble_eq_true rfl, Nat.le_of_ble_eq_true rfl⟩ ?_
    exact det_i (by first | rfl | omega) rfl

set_option maxHeartbeats 4000000 in
set_option maxRecDepth 100000 in
theorem m_J9_min_7cf53 (l : Launch) (G : GT) (a b : Int) (ha : R32 a) (hb : R32 b) : Ctr l G yJ9_min_7cf53 cJ9_min_7cf53 2 (Option.some FieldType.int) (rmO 0 0 0 0) [.int (iZ a), .int (iZ b)] [] (Det (some (.int (iZ (min a b)))) []) := by
  refine Ctr.go (own := RJ9) (nm := "min") (by decide +kernel) rfl rfl [some (.int (iZ a)), some (.int (iZ b))] 0 rfl rfl (Nat.le_of_ble_eq_true rfl) ?_
  intro K h hF
  refine V_iload_n h (dk dd_J9_min_7cf53_0 0 rfl) rfl get0 ?_
  refine V_iload_n h (dk dd_J9_min_7cf53_0 1 rfl) rfl get1 ?_
  refine V_icmp_gt (tgt := 9) h (dk dd_J9_min_7cf53_0 2 rfl) rfl (by omega) (fun c2 => ?_) (fun c2 => ?_)
  · refine V_iload_n h (dk dd_J9_min_7cf53_0 5 rfl) rfl get1 ?_
    refine V_iret h hF (dk dd_J9_min_7cf53_0 6 rfl) ⟨Nat.le_of_ble_eq_true rfl, Nat.le_of_ble_eq_true rfl⟩ ?_
    exact det_i (by first | rfl | omega) rfl
  · refine V_iload_n h (dk dd_J9_min_7cf53_0 3 rfl) rfl get0 ?_
    refine V_goto (tgt := 10) h (dk dd_J9_min_7cf53_0 4 rfl) rfl ?_
    refine V_iret h hF (dk dd_J9_min_7cf53_0 6 rfl) ⟨Nat.le_of_ble_eq_true rfl, Nat.le_of_ble_eq_true rfl⟩ ?_
    exact det_i (by first | rfl | omega) rfl

set_option maxHeartbeats 4000000 in
set_option maxRecDepth 100000 in
theorem m_J9_max_f86c9 (l : Launch) (G : GT) (a b : Int) (ha : R64 a) (hb : R64 b) : Ctr l G yJ9_max_f86c9 cJ9_max_f86c9 4 (Option.some FieldType.long) (rmO 0 0 0 0) [.long (lZ a), .long (lZ b)] [] (Det (some (.long (lZ (max a b)))) []) := by
  refine Ctr.go (own := RJ9) (nm := "max") (by decide +kernel) rfl rfl [some (.long (lZ a)), none, some (.long (lZ b)), none] 0 rfl rfl (Nat.le_of_ble_eq_true rfl) ?_
  intro K h hF
  refine V_lload_n h (dk dd_J9_max_f86c9_0 0 rfl) rfl get0 ?_
  refine V_lload_n h (dk dd_J9_max_f86c9_0 1 rfl) rfl get2 ?_
  refine V_lcmp_lt (tgt := 10) h (dk dd_J9_max_f86c9_0 2 rfl) (dk dd_J9_max_f86c9_0 3 rfl) rfl (by omega) (fun c2 => ?_) (fun c2 => ?_)
  · refine V_lload_n h (dk dd_J9_max_f86c9_0 6 rfl) rfl get2 ?_
    refine V_lret h hF (dk dd_J9_max_f86c9_0 7 rfl) ⟨Nat.le_of_ble_eq_true rfl, Nat.le_of_ble_eq_true rfl⟩ ?_
    exact det_l (by first | rfl | omega) rfl
  · refine V_lload_n h (dk dd_J9_max_f86c9_0 4 rfl) rfl get0 ?_
    refine V_goto (tgt := 11) h (dk dd_J9_max_f86c9_0 5 rfl) rfl ?_
    refine V_lret h hF (dk dd_J9_max_f86c9_0 7 rfl) ⟨Nat.le_of_ble_eq_true rfl, Nat.le_of_ble_eq_true rfl⟩ ?_
    exact det_l (by first | rfl | omega) rfl

set_option maxHeartbeats 4000000 in
set_option maxRecDepth 100000 in
theorem m_J9_floorMod_7cf53 (l : Launch) (G : GT) (a b : Int) (ha : R32 a) (hb : R32 b ∧ 0 < b) : Ctr l G yJ9_floorMod_7cf53 cJ9_floorMod_7cf53 3 (Option.some FieldType.int) (rmO 0 0 0 0) [.int (iZ a), .int (iZ b)] [] (Det (some (.int (iZ (a % b)))) []) := by
  refine Ctr.go (own := RJ9) (nm := "floorMod") (by decide +kernel) rfl rfl [some (.int (iZ a)), some (.int (iZ b)), none] 1 rfl rfl (Nat.le_of_ble_eq_true rfl) ?_
  intro K h hF
  have q1 := tmod_s a b hb.2
  refine V_iload_n h (dk dd_J9_floorMod_7cf53_0 0 rfl) rfl get0 ?_
  refine V_iload_n h (dk dd_J9_floorMod_7cf53_0 1 rfl) rfl get1 ?_
  refine V_irem h (dk dd_J9_floorMod_7cf53_0 2 rfl) (by omega) ?_
  refine V_istore_n h (dk dd_J9_floorMod_7cf53_0 3 rfl) rfl (Nat.le_of_ble_eq_true rfl) rfl set2 ?_
  refine V_iload_n h (dk dd_J9_floorMod_7cf53_0 4 rfl) rfl get0 ?_
  refine V_iload_n h (dk dd_J9_floorMod_7cf53_0 5 rfl) rfl get1 ?_
  refine V_xor_ge (tgt := 18) h (dk dd_J9_floorMod_7cf53_0 6 rfl) (dk dd_J9_floorMod_7cf53_0 7 rfl) rfl (by omega) (fun c6 => ?_) (fun c6 => ?_)
  · refine V_iload_n h (dk dd_J9_floorMod_7cf53_0 14 rfl) rfl get2 ?_
    refine V_iret h hF (dk dd_J9_floorMod_7cf53_0 15 rfl) ⟨Nat.le_of_ble_eq_true rfl, Nat.le_of_ble_eq_true rfl⟩ ?_
    exact det_i (by first | rfl | omega) rfl
  · refine V_iload_n h (dk dd_J9_floorMod_7cf53_0 8 rfl) rfl get2 ?_
    refine V_if_eq (tgt := 18) h (dk dd_J9_floorMod_7cf53_0 9 rfl) rfl (by omega) (fun c11 => ?_) (fun c11 => ?_)
    · refine V_iload_n h (dk dd_J9_floorMod_7cf53_0 14 rfl) rfl get2 ?_
      refine V_iret h hF (dk dd_J9_floorMod_7cf53_0 15 rfl) ⟨Nat.le_of_ble_eq_true rfl, Nat.le_of_ble_eq_true rfl⟩ ?_
      exact det_i (by first | rfl | omega) rfl
    · refine V_iload_n h (dk dd_J9_floorMod_7cf53_0 10 rfl) rfl get2 ?_
      refine V_iload_n h (dk dd_J9_floorMod_7cf53_0 11 rfl) rfl get1 ?_
      refine V_iadd h (dk dd_J9_floorMod_7cf53_0 12 rfl) ?_
      refine V_iret h hF (dk dd_J9_floorMod_7cf53_0 13 rfl) ⟨Nat.le_of_ble_eq_true rfl, Nat.le_of_ble_eq_true rfl⟩ ?_
      exact det_i (by first | rfl | omega) rfl

set_option maxHeartbeats 4000000 in
set_option maxRecDepth 100000 in
theorem m_X0_isPlace (l : Launch) (G : GT) (a : Int) (ha : R32 a) : Ctr l G yX0_isPlace cX0_isPlace 1 (Option.some FieldType.boolean) (rmO 0 0 0 0) [.int (iZ a)] [] (Det (some (.int (iZ (bZ (0 ≤ a ∧ a < 27720))))) []) := by
  refine Ctr.go (own := RX0) (nm := "isPlace") (by decide +kernel) rfl rfl [some (.int (iZ a))] 0 rfl rfl (Nat.le_of_ble_eq_true rfl) ?_
  intro K h hF
  refine V_iload_n h (dk dd_X0_isPlace_0 0 rfl) rfl get0 ?_
  refine V_if_lt (tgt := 15) h (dk dd_X0_isPlace_0 1 rfl) rfl (by omega) (fun c1 => ?_) (fun c1 => ?_)
  · refine V_iconst h (dk dd_X0_isPlace_0 7 rfl) ?_
    refine V_zret h hF (dk dd_X0_isPlace_0 8 rfl) ⟨Nat.le_of_ble_eq_true rfl, Nat.le_of_ble_eq_true rfl⟩ (by first | exact Or.inr rfl | exact Or.inl rfl | exact bZ_01 | omega) ?_
    exact det_i (by first | exact (bZ_t (by omega)).symm | exact (bZ_f (by omega)).symm | rfl) rfl
  · refine V_iload_n h (dk dd_X0_isPlace_0 2 rfl) rfl get0 ?_
    refine V_sipush h (dk dd_X0_isPlace_0 3 rfl) (by decide) ?_
    refine V_icmp_ge (tgt := 15) h (dk dd_X0_isPlace_0 4 rfl) rfl (by omega) (fun c8 => ?_) (fun c8 => ?_)
    · refine V_iconst h (dk dd_X0_isPlace_0 7 rfl) ?_
      refine V_zret h hF (dk dd_X0_isPlace_0 8 rfl) ⟨Nat.le_of_ble_eq_true rfl, Nat.le_of_ble_eq_true rfl⟩ (by first | exact Or.inr rfl | exact Or.inl rfl | exact bZ_01 | omega) ?_
      exact det_i (by first | exact (bZ_t (by omega)).symm | exact (bZ_f (by omega)).symm | rfl) rfl
    · refine V_iconst h (dk dd_X0_isPlace_0 5 rfl) ?_
      refine V_goto (tgt := 16) h (dk dd_X0_isPlace_0 6 rfl) rfl ?_
      refine V_zret h hF (dk dd_X0_isPlace_0 8 rfl) ⟨Nat.le_of_ble_eq_true rfl, Nat.le_of_ble_eq_true rfl⟩ (by first | exact Or.inr rfl | exact Or.inl rfl | exact bZ_01 | omega) ?_
      exact det_i (by first | exact (bZ_t (by omega)).symm | exact (bZ_f (by omega)).symm | rfl) rfl

set_option maxHeartbeats 4000000 in
set_option maxRecDepth 100000 in
theorem m_X0_isStep (l : Launch) (G : GT) (a : Int) (ha : R32 a) : Ctr l G yX0_isStep cX0_isStep 1 (Option.some FieldType.boolean) (rmO 0 0 0 0) [.int (iZ a)] [] (Det (some (.int (iZ (bZ (a ≠ 0 ∧ -13859 ≤ a ∧ a ≤ 13859))))) []) := by
  refine Ctr.go (own := RX0) (nm := "isStep") (by decide +kernel) rfl rfl [some (.int (iZ a))] 0 rfl rfl (Nat.le_of_ble_eq_true rfl) ?_
  intro K h hF
  refine V_iload_n h (dk dd_X0_isStep_0 0 rfl) rfl get0 ?_
  refine V_if_eq (tgt := 22) h (dk dd_X0_isStep_0 1 rfl) rfl (by omega) (fun c1 => ?_) (fun c1 => ?_)
  · refine V_iconst h (dk dd_X0_isStep_0 10 rfl) ?_
    refine V_zret h hF (dk dd_X0_isStep_0 11 rfl) ⟨Nat.le_of_ble_eq_true rfl, Nat.le_of_ble_eq_true rfl⟩ (by first | exact Or.inr rfl | exact Or.inl rfl | exact bZ_01 | omega) ?_
    exact det_i (by first | exact (bZ_t (by omega)).symm | exact (bZ_f (by omega)).symm | rfl) rfl
  · refine V_iload_n h (dk dd_X0_isStep_0 2 rfl) rfl get0 ?_
    refine V_sipush h (dk dd_X0_isStep_0 3 rfl) (by decide) ?_
    refine V_icmp_lt (tgt := 22) h (dk dd_X0_isStep_0 4 rfl) rfl (by omega) (fun c8 => ?_) (fun c8 => ?_)
    · refine V_iconst h (dk dd_X0_isStep_0 10 rfl) ?_
      refine V_zret h hF (dk dd_X0_isStep_0 11 rfl) ⟨Nat.le_of_ble_eq_true rfl, Nat.le_of_ble_eq_true rfl⟩ (by first | exact Or.inr rfl | exact Or.inl rfl | exact bZ_01 | omega) ?_
      exact det_i (by first | exact (bZ_t (by omega)).symm | exact (bZ_f (by omega)).symm | rfl) rfl
    · refine V_iload_n h (dk dd_X0_isStep_0 5 rfl) rfl get0 ?_
      refine V_sipush h (dk dd_X0_isStep_0 6 rfl) (by decide) ?_
      refine V_icmp_gt (tgt := 22) h (dk dd_X0_isStep_0 7 rfl) rfl (by omega) (fun c15 => ?_) (fun c15 => ?_)
      · refine V_iconst h (dk dd_X0_isStep_0 10 rfl) ?_
        refine V_zret h hF (dk dd_X0_isStep_0 11 rfl) ⟨Nat.le_of_ble_eq_true rfl, Nat.le_of_ble_eq_true rfl⟩ (by first | exact Or.inr rfl | exact Or.inl rfl | exact bZ_01 | omega) ?_
        exact det_i (by first | exact (bZ_t (by omega)).symm | exact (bZ_f (by omega)).symm | rfl) rfl
      · refine V_iconst h (dk dd_X0_isStep_0 8 rfl) ?_
        refine V_goto (tgt := 23) h (dk dd_X0_isStep_0 9 rfl) rfl ?_
        refine V_zret h hF (dk dd_X0_isStep_0 11 rfl) ⟨Nat.le_of_ble_eq_true rfl, Nat.le_of_ble_eq_true rfl⟩ (by first | exact Or.inr rfl | exact Or.inl rfl | exact bZ_01 | omega) ?_
        exact det_i (by first | exact (bZ_t (by omega)).symm | exact (bZ_f (by omega)).symm | rfl) rfl

set_option maxHeartbeats 4000000 in
set_option maxRecDepth 100000 in
theorem m_X0_placeAfter (l : Launch) (G : GT) (a b : Int) (ha : 0 ≤ a ∧ a < 27720) (hb : -13859 ≤ b ∧ b ≤ 13859) : Ctr l G yX0_placeAfter cX0_placeAfter 2 (Option.some FieldType.int) (rmO 1 0 0 22) [.int (iZ a), .int (iZ b)] [] (Det (some (.int (iZ ((a + b) % 27720)))) []) := by
  refine Ctr.go (own := RX0) (nm := "placeAfter") (by decide +kernel) rfl rfl [some (.int (iZ a)), some (.int (iZ b))] 0 rfl rfl (Nat.le_of_ble_eq_true rfl) ?_
  intro K h hF
  refine V_iload_n h (dk dd_X0_placeAfter_0 0 rfl) rfl get0 ?_
  refine V_iload_n h (dk dd_X0_placeAfter_0 1 rfl) rfl get1 ?_
  refine V_iadd h (dk dd_X0_placeAfter_0 2 rfl) ?_
  refine V_sipush h (dk dd_X0_placeAfter_0 3 rfl) (by decide) ?_
  refine V_callS h st2 ci_X0_9 pk_n rfl (m_J9_floorMod_7cf53 l G _ _ (by omega) (by omega)) rfl rfl (Nat.le_of_ble_eq_true rfl) (by decide) ⟨rfl, rfl, rfl⟩ (dk dd_X0_placeAfter_0 4 rfl) sk1 sm_n ?_
  refine V_iret h hF (dk dd_X0_placeAfter_0 5 rfl) ⟨Nat.le_of_ble_eq_true rfl, Nat.le_of_ble_eq_true rfl⟩ ?_
  exact det_i (by first | rfl | omega) rfl

set_option maxHeartbeats 4000000 in
set_option maxRecDepth 100000 in
theorem m_X0_sine (l : Launch) (G : GT) (s u : Int) (hs : 0 ≤ s ∧ s ≤ 2000000) (hu : 0 ≤ u ∧ u ≤ 27720) : Ctr l G yX0_sine cX0_sine 4 (Option.some FieldType.int) (rmO 0 0 0 0) [.int (iZ s), .int (iZ u)] [] (Det (some (.int (iZ (sineF s u)))) []) := by
  refine Ctr.go (own := RX0) (nm := "sine") (by decide +kernel) rfl rfl [some (.int (iZ s)), some (.int (iZ u)), none, none] 2 rfl rfl (Nat.le_of_ble_eq_true rfl) ?_
  intro K h hF
  have hb := bow_R hu
  have hm := Int.mul_le_mul_of_nonneg_left (c := 16 * s) hb.2 (by omega)
  have hm0 := Int.mul_nonneg (a := 16 * s) (b := bow u) (by omega) hb.1
  refine V_iload_n h (dk dd_X0_sine_0 0 rfl) rfl get1 ?_
  refine V_i2l h (dk dd_X0_sine_0 1 rfl) (by omega) ?_
  refine V_sipush h (dk dd_X0_sine_0 2 rfl) (by decide) ?_
  refine V_iload_n h (dk dd_X0_sine_0 3 rfl) rfl get1 ?_
  refine V_isub h (dk dd_X0_sine_0 4 rfl) ?_
  refine V_i2l h (dk dd_X0_sine_0 5 rfl) (by omega) ?_
  refine V_lmul h (dk dd_X0_sine_0 6 rfl) ?_
  refine V_lstore_n h (dk dd_X0_sine_0 7 rfl) rfl (Nat.le_of_ble_eq_true rfl) rfl set2 set3 ?_
  refine V_ldc2 h q2_109 (dk dd_X0_sine_0 8 rfl) ?_
  refine V_iload_n h (dk dd_X0_sine_0 9 rfl) rfl get0 ?_
  refine V_i2l h (dk dd_X0_sine_0 10 rfl) (by omega) ?_
  refine V_lmul h (dk dd_X0_sine_0 11 rfl) ?_
  refine V_lload_n h (dk dd_X0_sine_0 12 rfl) rfl get2 ?_
  refine V_lmul h (dk dd_X0_sine_0 13 rfl) ?_
  refine V_ldc2 h q2_110 (dk dd_X0_sine_0 14 rfl) ?_
  refine V_ldc2 h q2_111 (dk dd_X0_sine_0 15 rfl) ?_
  refine V_lload_n h (dk dd_X0_sine_0 16 rfl) rfl get2 ?_
  refine V_lmul h (dk dd_X0_sine_0 17 rfl) ?_
  refine V_lsub h (dk dd_X0_sine_0 18 rfl) ?_
  refine V_ldivP h (dk dd_X0_sine_0 19 rfl) (by unfold bow at hb hm hm0; omega) ?_
  refine V_l2i h (dk dd_X0_sine_0 20 rfl) ?_
  refine V_iret h hF (dk dd_X0_sine_0 21 rfl) ⟨Nat.le_of_ble_eq_true rfl, Nat.le_of_ble_eq_true rfl⟩ ?_
  exact det_i (by rw [sineF, bow]) rfl

set_option maxHeartbeats 4000000 in
set_option maxRecDepth 100000 in
theorem m_X0_chordTime (l : Launch) (G : GT) (s : Int) (hs : -13859 ≤ s ∧ s ≤ 13859) : Ctr l G yX0_chordTime cX0_chordTime 1 (Option.some FieldType.int) (rmO 1 0 0 23) [.int (iZ s)] [] (Det (some (.int (iZ (chordF s)))) []) := by
  refine Ctr.go (own := RX0) (nm := "chordTime") (by decide +kernel) rfl rfl [some (.int (iZ s))] 0 rfl rfl (Nat.le_of_ble_eq_true rfl) ?_
  intro K h hF
  refine V_ldc h q2_102 (dk dd_X0_chordTime_0 0 rfl) ?_
  refine V_iload_n h (dk dd_X0_chordTime_0 1 rfl) rfl get0 ?_
  refine V_callS h st1 ci_X0_22 pk_n rfl (m_J9_abs_0f7a4 l G _ (by omega)) rfl rfl (Nat.le_of_ble_eq_true rfl) (by decide) ⟨rfl, rfl, rfl⟩ (dk dd_X0_chordTime_0 2 rfl) sk1 sm_n ?_
  refine V_callS h st2 ci_X0_26 pk_n rfl (m_X0_sine l G _ _ (by omega) (by omega)) rfl rfl (Nat.le_of_ble_eq_true rfl) (by decide) ⟨rfl, rfl, rfl⟩ (dk dd_X0_chordTime_0 3 rfl) sk1 sm_n ?_
  refine V_iret h hF (dk dd_X0_chordTime_0 4 rfl) ⟨Nat.le_of_ble_eq_true rfl, Nat.le_of_ble_eq_true rfl⟩ ?_
  exact det_i (by first | rfl | omega) rfl

set_option maxHeartbeats 4000000 in
set_option maxRecDepth 100000 in
theorem m_X0_causticRadius (l : Launch) (G : GT) (s : Int) (hs : -13859 ≤ s ∧ s ≤ 13859) : Ctr l G yX0_causticRadius cX0_causticRadius 1 (Option.some FieldType.int) (rmO 1 0 0 23) [.int (iZ s)] [] (Det (some (.int (iZ (causF s)))) []) := by
  refine Ctr.go (own := RX0) (nm := "causticRadius") (by decide +kernel) rfl rfl [some (.int (iZ s))] 0 rfl rfl (Nat.le_of_ble_eq_true rfl) ?_
  intro K h hF
  refine V_ldc h q3_104 (dk dd_X0_causticRadius_0 0 rfl) ?_
  refine V_sipush h (dk dd_X0_causticRadius_0 1 rfl) (by decide) ?_
  refine V_iload_n h (dk dd_X0_causticRadius_0 2 rfl) rfl get0 ?_
  refine V_callS h st1 ci_X0_22 pk_n rfl (m_J9_abs_0f7a4 l G _ (by omega)) rfl rfl (Nat.le_of_ble_eq_true rfl) (by decide) ⟨rfl, rfl, rfl⟩ (dk dd_X0_causticRadius_0 3 rfl) sk1 sm_n ?_
  refine V_isub h (dk dd_X0_causticRadius_0 4 rfl) ?_
  refine V_callS h st2 ci_X0_26 pk_n rfl (m_X0_sine l G _ _ (by omega) (by omega)) rfl rfl (Nat.le_of_ble_eq_true rfl) (by decide) ⟨rfl, rfl, rfl⟩ (dk dd_X0_causticRadius_0 5 rfl) sk1 sm_n ?_
  refine V_iret h hF (dk dd_X0_causticRadius_0 6 rfl) ⟨Nat.le_of_ble_eq_true rfl, Nat.le_of_ble_eq_true rfl⟩ ?_
  exact det_i (by first | rfl | omega) rfl

set_option maxHeartbeats 4000000 in
set_option maxRecDepth 100000 in
theorem m_X0_tilted (l : Launch) (G : GT) (s k : Int) (hs : -13859 ≤ s ∧ s ≤ 13859) (hk : -9999 ≤ k ∧ k ≤ 9999) : Ctr l G yX0_tilted cX0_tilted 3 (Option.some FieldType.int) (rmO 1 0 0 20) [.int (iZ s), .int (iZ k)] [] (Det (some (.int (iZ (tiltF s k)))) []) := by
  refine Ctr.go (own := RX0) (nm := "tilted") (by decide +kernel) rfl rfl [some (.int (iZ s)), some (.int (iZ k)), none] 1 rfl rfl (Nat.le_of_ble_eq_true rfl) ?_
  intro K h hF
  refine V_iload_n h (dk dd_X0_tilted_0 0 rfl) rfl get0 ?_
  refine V_callS h st1 ci_X0_22 pk_n rfl (m_J9_abs_0f7a4 l G _ (by omega)) rfl rfl (Nat.le_of_ble_eq_true rfl) (by decide) ⟨rfl, rfl, rfl⟩ (dk dd_X0_tilted_0 1 rfl) sk1 sm_n ?_
  refine V_iload_n h (dk dd_X0_tilted_0 2 rfl) rfl get1 ?_
  refine V_iadd h (dk dd_X0_tilted_0 3 rfl) ?_
  refine V_istore_n h (dk dd_X0_tilted_0 4 rfl) rfl (Nat.le_of_ble_eq_true rfl) rfl set2 ?_
  refine V_iload_n h (dk dd_X0_tilted_0 5 rfl) rfl get2 ?_
  refine V_iconst h (dk dd_X0_tilted_0 6 rfl) ?_
  refine V_icmp_lt (tgt := 19) h (dk dd_X0_tilted_0 7 rfl) rfl (by omega) (fun c9 => ?_) (fun c9 => ?_)
  · refine V_iconst h (dk dd_X0_tilted_0 11 rfl) ?_
    refine V_iret h hF (dk dd_X0_tilted_0 12 rfl) ⟨Nat.le_of_ble_eq_true rfl, Nat.le_of_ble_eq_true rfl⟩ ?_
    exact det_i (by unfold tiltF; split <;> (try split) <;> omega) rfl
  · refine V_iload_n h (dk dd_X0_tilted_0 8 rfl) rfl get2 ?_
    refine V_sipush h (dk dd_X0_tilted_0 9 rfl) (by decide) ?_
    refine V_icmp_le (tgt := 21) h (dk dd_X0_tilted_0 10 rfl) rfl (by omega) (fun c16 => ?_) (fun c16 => ?_)
    · refine V_iload_n h (dk dd_X0_tilted_0 13 rfl) rfl get0 ?_
      refine V_if_le (tgt := 29) h (dk dd_X0_tilted_0 14 rfl) rfl (by omega) (fun c22 => ?_) (fun c22 => ?_)
      · refine V_iload_n h (dk dd_X0_tilted_0 17 rfl) rfl get2 ?_
        refine V_ineg h (dk dd_X0_tilted_0 18 rfl) ?_
        refine V_iret h hF (dk dd_X0_tilted_0 19 rfl) ⟨Nat.le_of_ble_eq_true rfl, Nat.le_of_ble_eq_true rfl⟩ ?_
        exact det_i (by unfold tiltF; split <;> (try split) <;> omega) rfl
      · refine V_iload_n h (dk dd_X0_tilted_0 15 rfl) rfl get2 ?_
        refine V_goto (tgt := 31) h (dk dd_X0_tilted_0 16 rfl) rfl ?_
        refine V_iret h hF (dk dd_X0_tilted_0 19 rfl) ⟨Nat.le_of_ble_eq_true rfl, Nat.le_of_ble_eq_true rfl⟩ ?_
        exact det_i (by unfold tiltF; split <;> (try split) <;> omega) rfl
    · refine V_iconst h (dk dd_X0_tilted_0 11 rfl) ?_
      refine V_iret h hF (dk dd_X0_tilted_0 12 rfl) ⟨Nat.le_of_ble_eq_true rfl, Nat.le_of_ble_eq_true rfl⟩ ?_
      exact det_i (by unfold tiltF; split <;> (try split) <;> omega) rfl

set_option maxHeartbeats 4000000 in
set_option maxRecDepth 100000 in
theorem m_X0_sharedDivisor (l : Launch) (G : GT) (s : Int) (hs : -13859 ≤ s ∧ s ≤ 13859) : Ctr l G yX0_sharedDivisor cX0_sharedDivisor 5 (Option.some FieldType.int) (rmO 1 0 0 20) [.int (iZ s)] [] (Det (some (.int (iZ (gcdF s)))) []) := by
  refine Ctr.go (own := RX0) (nm := "sharedDivisor") (by decide +kernel) rfl rfl [some (.int (iZ s)), none, none, none, none] 4 rfl rfl (Nat.le_of_ble_eq_true rfl) ?_
  intro K h hF
  refine V_sipush h (dk dd_X0_sharedDivisor_0 0 rfl) (by decide) ?_
  refine V_istore_n h (dk dd_X0_sharedDivisor_0 1 rfl) rfl (Nat.le_of_ble_eq_true rfl) rfl set1 ?_
  refine V_iload_n h (dk dd_X0_sharedDivisor_0 2 rfl) rfl get0 ?_
  refine V_callS h st1 ci_X0_22 pk_n rfl (m_J9_abs_0f7a4 l G _ (by omega)) rfl rfl (Nat.le_of_ble_eq_true rfl) (by decide) ⟨rfl, rfl, rfl⟩ (dk dd_X0_sharedDivisor_0 3 rfl) sk1 sm_n ?_
  refine V_istore_n h (dk dd_X0_sharedDivisor_0 4 rfl) rfl (Nat.le_of_ble_eq_true rfl) rfl set2 ?_
  refine V_iconst h (dk dd_X0_sharedDivisor_0 5 rfl) ?_
  refine V_istore_n h (dk dd_X0_sharedDivisor_0 6 rfl) rfl (Nat.le_of_ble_eq_true rfl) rfl set3 ?_
  have L11 : ∀ (fu : Nat) (d r i : Int), EucI (s.natAbs : Int) d r ∧ 0 ≤ i ∧ i ≤ 100 ∧ d * r * 2 ^ i.toNat ≤ 768398400 → (100 - i).toNat < fu → V K (0, 0) 11 [some (.int (iZ s)), some (.int (iZ d)), some (.int (iZ r)), some (.int (iZ i)), none] [] [] := by
    intro fu
    induction fu with
    | zero => intro d r i _ hm; exact absurd hm (Nat.not_lt_zero _)
    | succ fu ih11 =>
      intro d r i hI11 hm11
      obtain ⟨hE, hi0, hi1, hp⟩ := hI11
      have hE2 := hE
      refine V_iload_n h (dk dd_X0_sharedDivisor_0 7 rfl) rfl get3 ?_
      refine V_bipush h (dk dd_X0_sharedDivisor_0 8 rfl) (by decide) ?_
      refine V_icmp_ge (tgt := 37) h (dk dd_X0_sharedDivisor_0 9 rfl) rfl (by unfold EucI at hE2; omega) (fun c14 => ?_) (fun c14 => ?_)
      · refine V_iload_n h (dk dd_X0_sharedDivisor_0 22 rfl) rfl get1 ?_
        refine V_iret h hF (dk dd_X0_sharedDivisor_0 23 rfl) ⟨Nat.le_of_ble_eq_true rfl, Nat.le_of_ble_eq_true rfl⟩ ?_
        exact det_i (by rw [← gcd_abs]; exact euc_end2 hE (by omega) hp) rfl
      · refine V_iload_n h (dk dd_X0_sharedDivisor_0 10 rfl) rfl get2 ?_
        refine V_if_eq (tgt := 37) h (dk dd_X0_sharedDivisor_0 11 rfl) rfl (by unfold EucI at hE2; omega) (fun c18 => ?_) (fun c18 => ?_)
        · refine V_iload_n h (dk dd_X0_sharedDivisor_0 22 rfl) rfl get1 ?_
          refine V_iret h hF (dk dd_X0_sharedDivisor_0 23 rfl) ⟨Nat.le_of_ble_eq_true rfl, Nat.le_of_ble_eq_true rfl⟩ ?_
          exact det_i (by rw [← gcd_abs]; exact euc_e hE c18) rfl
        · refine V_iload_n h (dk dd_X0_sharedDivisor_0 12 rfl) rfl get1 ?_
          refine V_iload_n h (dk dd_X0_sharedDivisor_0 13 rfl) rfl get2 ?_
          refine V_iremP h (dk dd_X0_sharedDivisor_0 14 rfl) (by unfold EucI at hE2; omega) ?_
          refine V_istore h (dk dd_X0_sharedDivisor_0 15 rfl) (Nat.le_of_ble_eq_true rfl) rfl set4 ?_
          refine V_iload_n h (dk dd_X0_sharedDivisor_0 16 rfl) rfl get2 ?_
          refine V_istore_n h (dk dd_X0_sharedDivisor_0 17 rfl) rfl (Nat.le_of_ble_eq_true rfl) rfl set1 ?_
          refine V_iload h (dk dd_X0_sharedDivisor_0 18 rfl) get4 ?_
          refine V_istore_n h (dk dd_X0_sharedDivisor_0 19 rfl) rfl (Nat.le_of_ble_eq_true rfl) rfl set2 ?_
          refine V_iinc h (dk dd_X0_sharedDivisor_0 20 rfl) get3 (Nat.le_of_ble_eq_true rfl) rfl set3 ?_
          refine V_goto (tgt := 11) h (dk dd_X0_sharedDivisor_0 21 rfl) rfl ?_
          refine V_wk (lw_s (lw_s (lw_s (lw_s (lw_o lw_n))))) ?_
          exact ih11 _ _ _ (⟨euc_s hE (by unfold EucI at hE2; omega), by omega, by omega, by rw [show (i + 1).toNat = i.toNat + 1 by omega]; exact euc_p _ (by unfold EucI at hE2; omega) hE2.2.1 hp⟩) (by omega)
  exact L11 _ _ _ _ (⟨euc_0 (by omega), by omega, by omega, by simp only [Int.toNat_zero, Int.pow_zero]; omega⟩) (Nat.lt_succ_self _)

