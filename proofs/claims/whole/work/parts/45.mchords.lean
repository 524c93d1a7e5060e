/-! the reference: chords -/
set_option maxHeartbeats 4000000 in
set_option maxRecDepth 100000 in
theorem m_X12_isStep (l : Launch) (G : GT) (s : Int) (hs : R32 s) : Ctr l G yX12_isStep cX12_isStep 1 (Option.some FieldType.boolean) (rmO 1 0 0 22) [.int (iZ s)] [] (Det (some (.int (iZ (bZ (s ≠ 0 ∧ -13859 ≤ s ∧ s ≤ 13859))))) []) := by
  refine Ctr.go (own := RX12) (nm := "isStep") (by decide +kernel) rfl rfl [some (.int (iZ s))] 0 rfl rfl (Nat.le_of_ble_eq_true rfl) ?_
  intro K h hF
  refine V_iload_n h (dk dd_X12_isStep_0 0 rfl) rfl get0 ?_
  refine V_if_eq (tgt := 21) h (dk dd_X12_isStep_0 1 rfl) rfl (by omega) (fun c1 => ?_) (fun c1 => ?_)
  · refine V_iconst h (dk dd_X12_isStep_0 9 rfl) ?_
    refine V_zret h hF (dk dd_X12_isStep_0 10 rfl) ⟨Nat.le_of_ble_eq_true rfl, Nat.le_of_ble_eq_true rfl⟩ (by first | exact Or.inr rfl | exact Or.inl rfl | exact bZ_01 | omega) ?_
    exact det_i (by first | exact (bZ_t (by omega)).symm | exact (bZ_f (by omega)).symm | rfl) rfl
  · refine V_iload_n h (dk dd_X12_isStep_0 2 rfl) rfl get0 ?_
    refine V_sipush h (dk dd_X12_isStep_0 3 rfl) (by decide) ?_
    refine V_sipush h (dk dd_X12_isStep_0 4 rfl) (by decide) ?_
    refine V_callS h st3 ci_X12_70 pk_n rfl (m_X12_in l G _ _ _ (by omega) (by omega) (by omega)) rfl rfl (Nat.le_of_ble_eq_true rfl) (by decide) ⟨rfl, rfl, rfl⟩ (dk dd_X12_isStep_0 5 rfl) sk1 sm_n ?_
    refine V_ifz_eq (tgt := 21) h (dk dd_X12_isStep_0 6 rfl) rfl (fun c14 => ?_) (fun c14 => ?_)
    · refine V_iconst h (dk dd_X12_isStep_0 9 rfl) ?_
      refine V_zret h hF (dk dd_X12_isStep_0 10 rfl) ⟨Nat.le_of_ble_eq_true rfl, Nat.le_of_ble_eq_true rfl⟩ (by first | exact Or.inr rfl | exact Or.inl rfl | exact bZ_01 | omega) ?_
      exact det_i (by first | exact (bZ_t (by omega)).symm | exact (bZ_f (by omega)).symm | rfl) rfl
    · refine V_iconst h (dk dd_X12_isStep_0 7 rfl) ?_
      refine V_goto (tgt := 22) h (dk dd_X12_isStep_0 8 rfl) rfl ?_
      refine V_zret h hF (dk dd_X12_isStep_0 10 rfl) ⟨Nat.le_of_ble_eq_true rfl, Nat.le_of_ble_eq_true rfl⟩ (by first | exact Or.inr rfl | exact Or.inl rfl | exact bZ_01 | omega) ?_
      exact det_i (by first | exact (bZ_t (by omega)).symm | exact (bZ_f (by omega)).symm | rfl) rfl

set_option maxHeartbeats 4000000 in
set_option maxRecDepth 100000 in
theorem m_X12_isPlace (l : Launch) (G : GT) (s : Int) (hs : R32 s) : Ctr l G yX12_isPlace cX12_isPlace 1 (Option.some FieldType.boolean) (rmO 1 0 0 22) [.int (iZ s)] [] (Det (some (.int (iZ (bZ (0 ≤ s ∧ s < 27720))))) []) := by
  refine Ctr.go (own := RX12) (nm := "isPlace") (by decide +kernel) rfl rfl [some (.int (iZ s))] 0 rfl rfl (Nat.le_of_ble_eq_true rfl) ?_
  intro K h hF
  refine V_iload_n h (dk dd_X12_isPlace_0 0 rfl) rfl get0 ?_
  refine V_iconst h (dk dd_X12_isPlace_0 1 rfl) ?_
  refine V_sipush h (dk dd_X12_isPlace_0 2 rfl) (by decide) ?_
  refine V_callS h st3 ci_X12_70 pk_n rfl (m_X12_in l G _ _ _ (by omega) (by omega) (by omega)) rfl rfl (Nat.le_of_ble_eq_true rfl) (by decide) ⟨rfl, rfl, rfl⟩ (dk dd_X12_isPlace_0 3 rfl) sk1 sm_n ?_
  refine V_zret h hF (dk dd_X12_isPlace_0 4 rfl) ⟨Nat.le_of_ble_eq_true rfl, Nat.le_of_ble_eq_true rfl⟩ (bZ_01) ?_
  exact det_i (bZ_iff (by omega)) rfl

set_option maxHeartbeats 4000000 in
set_option maxRecDepth 100000 in
theorem m_X12_size (l : Launch) (G : GT) (s : Int) (hs : -13859 ≤ s ∧ s ≤ 13859) : Ctr l G yX12_size cX12_size 1 (Option.some FieldType.int) (rmO 0 0 0 0) [.int (iZ s)] [] (Det (some (.int (iZ (s.natAbs : Int)))) []) := by
  refine Ctr.go (own := RX12) (nm := "size") (by decide +kernel) rfl rfl [some (.int (iZ s))] 0 rfl rfl (Nat.le_of_ble_eq_true rfl) ?_
  intro K h hF
  refine V_iload_n h (dk dd_X12_size_0 0 rfl) rfl get0 ?_
  refine V_if_ge (tgt := 9) h (dk dd_X12_size_0 1 rfl) rfl (by omega) (fun c1 => ?_) (fun c1 => ?_)
  · refine V_iload_n h (dk dd_X12_size_0 5 rfl) rfl get0 ?_
    refine V_iret h hF (dk dd_X12_size_0 6 rfl) ⟨Nat.le_of_ble_eq_true rfl, Nat.le_of_ble_eq_true rfl⟩ ?_
    exact det_i (by first | rfl | omega) rfl
  · refine V_iload_n h (dk dd_X12_size_0 2 rfl) rfl get0 ?_
    refine V_ineg h (dk dd_X12_size_0 3 rfl) ?_
    refine V_goto (tgt := 10) h (dk dd_X12_size_0 4 rfl) rfl ?_
    refine V_iret h hF (dk dd_X12_size_0 6 rfl) ⟨Nat.le_of_ble_eq_true rfl, Nat.le_of_ble_eq_true rfl⟩ ?_
    exact det_i (by first | rfl | omega) rfl

set_option maxHeartbeats 4000000 in
set_option maxRecDepth 100000 in
theorem m_X12_wide (l : Launch) (G : GT) (u s : Int) (hs : 0 ≤ s ∧ s ≤ 2000000) (hu : 0 ≤ u ∧ u ≤ 27720) : Ctr l G yX12_wide cX12_wide 6 (Option.some FieldType.int) (rmO 0 0 0 0) [.long (lZ u), .long (lZ s)] [] (Det (some (.int (iZ (sineF s u)))) []) := by
  refine Ctr.go (own := RX12) (nm := "wide") (by decide +kernel) rfl rfl [some (.long (lZ u)), none, some (.long (lZ s)), none, none, none] 2 rfl rfl (Nat.le_of_ble_eq_true rfl) ?_
  intro K h hF
  have hb := bow_R hu
  have hm := Int.mul_le_mul_of_nonneg_left (c := 16 * s) hb.2 (by omega)
  have hm0 := Int.mul_nonneg (a := 16 * s) (b := bow u) (by omega) hb.1
  refine V_lload_n h (dk dd_X12_wide_0 0 rfl) rfl get0 ?_
  refine V_ldc2 h q4_197 (dk dd_X12_wide_0 1 rfl) ?_
  refine V_lload_n h (dk dd_X12_wide_0 2 rfl) rfl get0 ?_
  refine V_lsub h (dk dd_X12_wide_0 3 rfl) ?_
  refine V_lmul h (dk dd_X12_wide_0 4 rfl) ?_
  refine V_lstore h (dk dd_X12_wide_0 5 rfl) (Nat.le_of_ble_eq_true rfl) rfl set4 set5 ?_
  refine V_lload_n h (dk dd_X12_wide_0 6 rfl) rfl get2 ?_
  refine V_ldc2 h q4_198 (dk dd_X12_wide_0 7 rfl) ?_
  refine V_lmul h (dk dd_X12_wide_0 8 rfl) ?_
  rw [Int.mul_comm s 16]
  refine V_lload h (dk dd_X12_wide_0 9 rfl) get4 ?_
  refine V_lmul h (dk dd_X12_wide_0 10 rfl) ?_
  refine V_ldc2 h q4_199 (dk dd_X12_wide_0 11 rfl) ?_
  refine V_ldc2 h q4_200 (dk dd_X12_wide_0 12 rfl) ?_
  refine V_lload h (dk dd_X12_wide_0 13 rfl) get4 ?_
  refine V_lmul h (dk dd_X12_wide_0 14 rfl) ?_
  refine V_lsub h (dk dd_X12_wide_0 15 rfl) ?_
  refine V_ldivP h (dk dd_X12_wide_0 16 rfl) (by unfold bow at hb hm hm0; omega) ?_
  refine V_l2i h (dk dd_X12_wide_0 17 rfl) ?_
  refine V_iret h hF (dk dd_X12_wide_0 18 rfl) ⟨Nat.le_of_ble_eq_true rfl, Nat.le_of_ble_eq_true rfl⟩ ?_
  exact det_i (by rw [sineF, bow]) rfl

set_option maxHeartbeats 4000000 in
set_option maxRecDepth 100000 in
theorem m_X12_chord (l : Launch) (G : GT) (s : Int) (hs : -13859 ≤ s ∧ s ≤ 13859) : Ctr l G yX12_chord cX12_chord 1 (Option.some FieldType.int) (rmO 1 0 0 25) [.int (iZ s)] [] (Det (some (.int (iZ (chordF s)))) []) := by
  refine Ctr.go (own := RX12) (nm := "chord") (by decide +kernel) rfl rfl [some (.int (iZ s))] 0 rfl rfl (Nat.le_of_ble_eq_true rfl) ?_
  intro K h hF
  refine V_iload_n h (dk dd_X12_chord_0 0 rfl) rfl get0 ?_
  refine V_if_ge (tgt := 10) h (dk dd_X12_chord_0 1 rfl) rfl (by omega) (fun c1 => ?_) (fun c1 => ?_)
  · refine V_iload_n h (dk dd_X12_chord_0 6 rfl) rfl get0 ?_
    refine V_i2l h (dk dd_X12_chord_0 7 rfl) (by omega) ?_
    rw [show s = (s.natAbs : Int) by omega]
    refine V_ldc2 h q4_193 (dk dd_X12_chord_0 8 rfl) ?_
    refine V_callS h st2 ci_X12_143 pk_n rfl (m_X12_wide l G _ _ (by omega) (by omega)) rfl rfl (Nat.le_of_ble_eq_true rfl) (by decide) ⟨rfl, rfl, rfl⟩ (dk dd_X12_chord_0 9 rfl) sk1 sm_n ?_
    refine V_iret h hF (dk dd_X12_chord_0 10 rfl) ⟨Nat.le_of_ble_eq_true rfl, Nat.le_of_ble_eq_true rfl⟩ ?_
    exact det_i (by rw [chordF]) rfl
  · refine V_iload_n h (dk dd_X12_chord_0 2 rfl) rfl get0 ?_
    refine V_ineg h (dk dd_X12_chord_0 3 rfl) ?_
    refine V_i2l h (dk dd_X12_chord_0 4 rfl) (by omega) ?_
    refine V_goto (tgt := 12) h (dk dd_X12_chord_0 5 rfl) rfl ?_
    rw [show -s = (s.natAbs : Int) by omega]
    refine V_ldc2 h q4_193 (dk dd_X12_chord_0 8 rfl) ?_
    refine V_callS h st2 ci_X12_143 pk_n rfl (m_X12_wide l G _ _ (by omega) (by omega)) rfl rfl (Nat.le_of_ble_eq_true rfl) (by decide) ⟨rfl, rfl, rfl⟩ (dk dd_X12_chord_0 9 rfl) sk1 sm_n ?_
    refine V_iret h hF (dk dd_X12_chord_0 10 rfl) ⟨Nat.le_of_ble_eq_true rfl, Nat.le_of_ble_eq_true rfl⟩ ?_
    exact det_i (by rw [chordF]) rfl

set_option maxHeartbeats 4000000 in
set_option maxRecDepth 100000 in
theorem m_X12_circle (l : Launch) (G : GT) (s : Int) (hs : -13859 ≤ s ∧ s ≤ 13859) : Ctr l G yX12_circle cX12_circle 1 (Option.some FieldType.int) (rmO 1 0 0 25) [.int (iZ s)] [] (Det (some (.int (iZ (causF s)))) []) := by
  refine Ctr.go (own := RX12) (nm := "circle") (by decide +kernel) rfl rfl [some (.int (iZ s))] 0 rfl rfl (Nat.le_of_ble_eq_true rfl) ?_
  intro K h hF
  refine V_sipush h (dk dd_X12_circle_0 0 rfl) (by decide) ?_
  refine V_iload_n h (dk dd_X12_circle_0 1 rfl) rfl get0 ?_
  refine V_if_ge (tgt := 12) h (dk dd_X12_circle_0 2 rfl) rfl (by omega) (fun c4 => ?_) (fun c4 => ?_)
  · refine V_iload_n h (dk dd_X12_circle_0 6 rfl) rfl get0 ?_
    refine V_isub h (dk dd_X12_circle_0 7 rfl) ?_
    refine V_i2l h (dk dd_X12_circle_0 8 rfl) (by omega) ?_
    refine V_ldc2 h q4_208 (dk dd_X12_circle_0 9 rfl) ?_
    refine V_callS h st2 ci_X12_143 pk_n rfl (m_X12_wide l G _ _ (by omega) (by omega)) rfl rfl (Nat.le_of_ble_eq_true rfl) (by decide) ⟨rfl, rfl, rfl⟩ (dk dd_X12_circle_0 10 rfl) sk1 sm_n ?_
    refine V_iret h hF (dk dd_X12_circle_0 11 rfl) ⟨Nat.le_of_ble_eq_true rfl, Nat.le_of_ble_eq_true rfl⟩ ?_
    exact det_i (by rw [causF]; congr 1; omega) rfl
  · refine V_iload_n h (dk dd_X12_circle_0 3 rfl) rfl get0 ?_
    refine V_ineg h (dk dd_X12_circle_0 4 rfl) ?_
    refine V_goto (tgt := 13) h (dk dd_X12_circle_0 5 rfl) rfl ?_
    refine V_isub h (dk dd_X12_circle_0 7 rfl) ?_
    refine V_i2l h (dk dd_X12_circle_0 8 rfl) (by omega) ?_
    refine V_ldc2 h q4_208 (dk dd_X12_circle_0 9 rfl) ?_
    refine V_callS h st2 ci_X12_143 pk_n rfl (m_X12_wide l G _ _ (by omega) (by omega)) rfl rfl (Nat.le_of_ble_eq_true rfl) (by decide) ⟨rfl, rfl, rfl⟩ (dk dd_X12_circle_0 10 rfl) sk1 sm_n ?_
    refine V_iret h hF (dk dd_X12_circle_0 11 rfl) ⟨Nat.le_of_ble_eq_true rfl, Nat.le_of_ble_eq_true rfl⟩ ?_
    exact det_i (by rw [causF]; congr 1; omega) rfl

set_option maxHeartbeats 4000000 in
set_option maxRecDepth 100000 in
theorem m_X12_time (l : Launch) (G : GT) (x : Nat) (s : Int) (hs : R32 s) : Ctr l G yX12_time cX12_time 2 (Option.some FieldType.int) (rmO 2 0 0 45) [.ref x, .int (iZ s)] [] (Det (some (.int (iZ (if s ≠ 0 ∧ -13859 ≤ s ∧ s ≤ 13859 then chordF s else -100001)))) []) := by
  refine Ctr.go (own := RX12) (nm := "time") (by decide +kernel) rfl rfl [some (.ref x), some (.int (iZ s))] 0 rfl rfl (Nat.le_of_ble_eq_true rfl) ?_
  intro K h hF
  refine V_iload_n h (dk dd_X12_time_0 0 rfl) rfl get1 ?_
  refine V_callS h st1 ci_X12_147 pk_n rfl (m_X12_isStep l G _ (by omega)) rfl rfl (Nat.le_of_ble_eq_true rfl) (by decide) ⟨rfl, rfl, rfl⟩ (dk dd_X12_time_0 1 rfl) sk1 sm_n ?_
  refine V_ifz_eq (tgt := 14) h (dk dd_X12_time_0 2 rfl) rfl (fun c4 => ?_) (fun c4 => ?_)
  · refine V_ldc h q4_104 (dk dd_X12_time_0 6 rfl) ?_
    refine V_iret h hF (dk dd_X12_time_0 7 rfl) ⟨Nat.le_of_ble_eq_true rfl, Nat.le_of_ble_eq_true rfl⟩ ?_
    exact det_i (by first | rw [if_pos (by assumption)] | rw [if_neg (by assumption)]) rfl
  · refine V_iload_n h (dk dd_X12_time_0 3 rfl) rfl get1 ?_
    refine V_callS h st1 ci_X12_150 pk_n rfl (m_X12_chord l G _ (by omega)) rfl rfl (Nat.le_of_ble_eq_true rfl) (by decide) ⟨rfl, rfl, rfl⟩ (dk dd_X12_time_0 4 rfl) sk1 sm_n ?_
    refine V_goto (tgt := 16) h (dk dd_X12_time_0 5 rfl) rfl ?_
    refine V_iret h hF (dk dd_X12_time_0 7 rfl) ⟨Nat.le_of_ble_eq_true rfl, Nat.le_of_ble_eq_true rfl⟩ ?_
    exact det_i (by first | rw [if_pos (by assumption)] | rw [if_neg (by assumption)]) rfl

set_option maxHeartbeats 4000000 in
set_option maxRecDepth 100000 in
theorem m_X12_caustic (l : Launch) (G : GT) (x : Nat) (s : Int) (hs : R32 s) : Ctr l G yX12_caustic cX12_caustic 2 (Option.some FieldType.int) (rmO 2 0 0 45) [.ref x, .int (iZ s)] [] (Det (some (.int (iZ (if s ≠ 0 ∧ -13859 ≤ s ∧ s ≤ 13859 then causF s else -100001)))) []) := by
  refine Ctr.go (own := RX12) (nm := "caustic") (by decide +kernel) rfl rfl [some (.ref x), some (.int (iZ s))] 0 rfl rfl (Nat.le_of_ble_eq_true rfl) ?_
  intro K h hF
  refine V_iload_n h (dk dd_X12_caustic_0 0 rfl) rfl get1 ?_
  refine V_callS h st1 ci_X12_147 pk_n rfl (m_X12_isStep l G _ (by omega)) rfl rfl (Nat.le_of_ble_eq_true rfl) (by decide) ⟨rfl, rfl, rfl⟩ (dk dd_X12_caustic_0 1 rfl) sk1 sm_n ?_
  refine V_ifz_eq (tgt := 14) h (dk dd_X12_caustic_0 2 rfl) rfl (fun c4 => ?_) (fun c4 => ?_)
  · refine V_ldc h q4_104 (dk dd_X12_caustic_0 6 rfl) ?_
    refine V_iret h hF (dk dd_X12_caustic_0 7 rfl) ⟨Nat.le_of_ble_eq_true rfl, Nat.le_of_ble_eq_true rfl⟩ ?_
    exact det_i (by first | rw [if_pos (by assumption)] | rw [if_neg (by assumption)]) rfl
  · refine V_iload_n h (dk dd_X12_caustic_0 3 rfl) rfl get1 ?_
    refine V_callS h st1 ci_X12_156 pk_n rfl (m_X12_circle l G _ (by omega)) rfl rfl (Nat.le_of_ble_eq_true rfl) (by decide) ⟨rfl, rfl, rfl⟩ (dk dd_X12_caustic_0 4 rfl) sk1 sm_n ?_
    refine V_goto (tgt := 16) h (dk dd_X12_caustic_0 5 rfl) rfl ?_
    refine V_iret h hF (dk dd_X12_caustic_0 7 rfl) ⟨Nat.le_of_ble_eq_true rfl, Nat.le_of_ble_eq_true rfl⟩ ?_
    exact det_i (by first | rw [if_pos (by assumption)] | rw [if_neg (by assumption)]) rfl

set_option maxHeartbeats 4000000 in
set_option maxRecDepth 100000 in
theorem m_X12_common (l : Launch) (G : GT) (s : Int) (hs : 0 ≤ s ∧ s ≤ 13859) : Ctr l G yX12_common cX12_common 4 (Option.some FieldType.int) (rmO 0 0 0 0) [.int (iZ s)] [] (Det (some (.int (iZ (gcdF s)))) []) := by
  refine Ctr.go (own := RX12) (nm := "common") (by decide +kernel) rfl rfl [some (.int (iZ s)), none, none, none] 3 rfl rfl (Nat.le_of_ble_eq_true rfl) ?_
  intro K h hF
  refine V_sipush h (dk dd_X12_common_0 0 rfl) (by decide) ?_
  refine V_istore_n h (dk dd_X12_common_0 1 rfl) rfl (Nat.le_of_ble_eq_true rfl) rfl set1 ?_
  refine V_iload_n h (dk dd_X12_common_0 2 rfl) rfl get0 ?_
  refine V_istore_n h (dk dd_X12_common_0 3 rfl) rfl (Nat.le_of_ble_eq_true rfl) rfl set2 ?_
  have L6 : ∀ (fu : Nat) (d r : Int), EucI s d r → r.toNat < fu → V K (0, 0) 6 [some (.int (iZ s)), some (.int (iZ d)), some (.int (iZ r)), none] [] [] := by
    intro fu
    induction fu with
    | zero => intro d r _ hm; exact absurd hm (Nat.not_lt_zero _)
    | succ fu ih6 =>
      intro d r hI6 hm6
      have hE2 := hI6
      refine V_iload_n h (dk dd_X12_common_0 4 rfl) rfl get2 ?_
      refine V_if_le (tgt := 21) h (dk dd_X12_common_0 5 rfl) rfl (by unfold EucI at hE2; omega) (fun c7 => ?_) (fun c7 => ?_)
      · refine V_iload_n h (dk dd_X12_common_0 15 rfl) rfl get1 ?_
        refine V_iret h hF (dk dd_X12_common_0 16 rfl) ⟨Nat.le_of_ble_eq_true rfl, Nat.le_of_ble_eq_true rfl⟩ ?_
        exact det_i (euc_e hI6 (by unfold EucI at hE2; omega)) rfl
      · refine V_iload_n h (dk dd_X12_common_0 6 rfl) rfl get1 ?_
        refine V_iload_n h (dk dd_X12_common_0 7 rfl) rfl get2 ?_
        refine V_iremP h (dk dd_X12_common_0 8 rfl) (by unfold EucI at hE2; omega) ?_
        refine V_istore_n h (dk dd_X12_common_0 9 rfl) rfl (Nat.le_of_ble_eq_true rfl) rfl set3 ?_
        refine V_iload_n h (dk dd_X12_common_0 10 rfl) rfl get2 ?_
        refine V_istore_n h (dk dd_X12_common_0 11 rfl) rfl (Nat.le_of_ble_eq_true rfl) rfl set1 ?_
        refine V_iload_n h (dk dd_X12_common_0 12 rfl) rfl get3 ?_
        refine V_istore_n h (dk dd_X12_common_0 13 rfl) rfl (Nat.le_of_ble_eq_true rfl) rfl set2 ?_
        refine V_goto (tgt := 6) h (dk dd_X12_common_0 14 rfl) rfl ?_
        refine V_wk (lw_s (lw_s (lw_s (lw_o lw_n)))) ?_
        exact ih6 _ _ (euc_s hI6 (by omega)) ((by have a2 := Int.emod_lt_of_pos d (show 0 < r by omega); have a1 := Int.emod_nonneg d (show r ≠ 0 by omega); omega))
  exact L6 _ _ _ (euc_0 hs) (Nat.lt_succ_self _)

set_option maxHeartbeats 4000000 in
set_option maxRecDepth 100000 in
theorem m_X12_order (l : Launch) (G : GT) (x : Nat) (s : Int) (hs : R32 s) : Ctr l G yX12_order cX12_order 2 (Option.some FieldType.int) (rmO 2 0 0 42) [.ref x, .int (iZ s)] [] (Det (some (.int (iZ (if s ≠ 0 ∧ -13859 ≤ s ∧ s ≤ 13859 then 27720 / gcdF s else -100001)))) []) := by
  refine Ctr.go (own := RX12) (nm := "order") (by decide +kernel) rfl rfl [some (.ref x), some (.int (iZ s))] 0 rfl rfl (Nat.le_of_ble_eq_true rfl) ?_
  intro K h hF
  have hg := gcd_pos s
  have hg2 := gcd_le s
  refine V_iload_n h (dk dd_X12_order_0 0 rfl) rfl get1 ?_
  refine V_callS h st1 ci_X12_147 pk_n rfl (m_X12_isStep l G _ (by omega)) rfl rfl (Nat.le_of_ble_eq_true rfl) (by decide) ⟨rfl, rfl, rfl⟩ (dk dd_X12_order_0 1 rfl) sk1 sm_n ?_
  refine V_ifz_eq (tgt := 21) h (dk dd_X12_order_0 2 rfl) rfl (fun c4 => ?_) (fun c4 => ?_)
  · refine V_ldc h q4_104 (dk dd_X12_order_0 9 rfl) ?_
    refine V_iret h hF (dk dd_X12_order_0 10 rfl) ⟨Nat.le_of_ble_eq_true rfl, Nat.le_of_ble_eq_true rfl⟩ ?_
    exact det_i (by first | rw [if_pos (by assumption)] | rw [if_neg (by assumption)]) rfl
  · refine V_sipush h (dk dd_X12_order_0 3 rfl) (by decide) ?_
    refine V_iload_n h (dk dd_X12_order_0 4 rfl) rfl get1 ?_
    refine V_callS h st1 ci_X12_159 pk_n rfl (m_X12_size l G _ (by omega)) rfl rfl (Nat.le_of_ble_eq_true rfl) (by decide) ⟨rfl, rfl, rfl⟩ (dk dd_X12_order_0 5 rfl) sk1 sm_n ?_
    refine V_callS h st1 ci_X12_162 pk_n rfl (m_X12_common l G _ (by omega)) rfl rfl (Nat.le_of_ble_eq_true rfl) (by decide) ⟨rfl, rfl, rfl⟩ (dk dd_X12_order_0 6 rfl) sk1 sm_n ?_
    rw [gcd_abs]
    refine V_idivP h (dk dd_X12_order_0 7 rfl) (by omega) ?_
    refine V_goto (tgt := 23) h (dk dd_X12_order_0 8 rfl) rfl ?_
    refine V_iret h hF (dk dd_X12_order_0 10 rfl) ⟨Nat.le_of_ble_eq_true rfl, Nat.le_of_ble_eq_true rfl⟩ ?_
    exact det_i (by first | rw [if_pos (by assumption)] | rw [if_neg (by assumption)]) rfl

set_option maxHeartbeats 4000000 in
set_option maxRecDepth 100000 in
theorem m_X12_turns (l : Launch) (G : GT) (x : Nat) (s : Int) (hs : R32 s) : Ctr l G yX12_turns cX12_turns 2 (Option.some FieldType.int) (rmO 2 0 0 42) [.ref x, .int (iZ s)] [] (Det (some (.int (iZ (if s ≠ 0 ∧ -13859 ≤ s ∧ s ≤ 13859 then (s.natAbs : Int) / gcdF s else -100001)))) []) := by
  refine Ctr.go (own := RX12) (nm := "turns") (by decide +kernel) rfl rfl [some (.ref x), some (.int (iZ s))] 0 rfl rfl (Nat.le_of_ble_eq_true rfl) ?_
  intro K h hF
  have hg := gcd_pos s
  have hg2 := gcd_le s
  refine V_iload_n h (dk dd_X12_turns_0 0 rfl) rfl get1 ?_
  refine V_callS h st1 ci_X12_147 pk_n rfl (m_X12_isStep l G _ (by omega)) rfl rfl (Nat.le_of_ble_eq_true rfl) (by decide) ⟨rfl, rfl, rfl⟩ (dk dd_X12_turns_0 1 rfl) sk1 sm_n ?_
  refine V_ifz_eq (tgt := 22) h (dk dd_X12_turns_0 2 rfl) rfl (fun c4 => ?_) (fun c4 => ?_)
  · refine V_ldc h q4_104 (dk dd_X12_turns_0 10 rfl) ?_
    refine V_iret h hF (dk dd_X12_turns_0 11 rfl) ⟨Nat.le_of_ble_eq_true rfl, Nat.le_of_ble_eq_true rfl⟩ ?_
    exact det_i (by first | rw [if_pos (by assumption)] | rw [if_neg (by assumption)]) rfl
  · refine V_iload_n h (dk dd_X12_turns_0 3 rfl) rfl get1 ?_
    refine V_callS h st1 ci_X12_159 pk_n rfl (m_X12_size l G _ (by omega)) rfl rfl (Nat.le_of_ble_eq_true rfl) (by decide) ⟨rfl, rfl, rfl⟩ (dk dd_X12_turns_0 4 rfl) sk1 sm_n ?_
    refine V_iload_n h (dk dd_X12_turns_0 5 rfl) rfl get1 ?_
    refine V_callS h st1 ci_X12_159 pk_n rfl (m_X12_size l G _ (by omega)) rfl rfl (Nat.le_of_ble_eq_true rfl) (by decide) ⟨rfl, rfl, rfl⟩ (dk dd_X12_turns_0 6 rfl) sk1 sm_n ?_
    refine V_callS h st1 ci_X12_162 pk_n rfl (m_X12_common l G _ (by omega)) rfl rfl (Nat.le_of_ble_eq_true rfl) (by decide) ⟨rfl, rfl, rfl⟩ (dk dd_X12_turns_0 7 rfl) sk1 sm_n ?_
    rw [gcd_abs]
    refine V_idivP h (dk dd_X12_turns_0 8 rfl) (by omega) ?_
    refine V_goto (tgt := 24) h (dk dd_X12_turns_0 9 rfl) rfl ?_
    refine V_iret h hF (dk dd_X12_turns_0 11 rfl) ⟨Nat.le_of_ble_eq_true rfl, Nat.le_of_ble_eq_true rfl⟩ ?_
    exact det_i (by first | rw [if_pos (by assumption)] | rw [if_neg (by assumption)]) rfl

set_option maxHeartbeats 4000000 in
set_option maxRecDepth 100000 in
theorem m_X12_aim (l : Launch) (G : GT) (x : Nat) (p q k : Int) (hp : R32 p) (hq : R32 q) (hk : R32 k) : Ctr l G yX12_aim cX12_aim 7 (Option.some FieldType.int) (rmO 2 0 0 42) [.ref x, .int (iZ p), .int (iZ q), .int (iZ k)] [] (Det (some (.int (iZ (if (0 ≤ p ∧ p < 27720) ∧ (0 ≤ q ∧ q < 27720) ∧ 1 ≤ k ∧ k ≤ 50 then (if aimF (q - p) k = 0 then -100009 else aimF (q - p) k) else -100001)))) []) := by
  refine Ctr.go (own := RX12) (nm := "aim") (by decide +kernel) rfl rfl [some (.ref x), some (.int (iZ p)), some (.int (iZ q)), some (.int (iZ k)), none, none, none] 3 rfl rfl (Nat.le_of_ble_eq_true rfl) ?_
  intro K h hF
  refine V_iload_n h (dk dd_X12_aim_0 0 rfl) rfl get1 ?_
  refine V_callS h st1 ci_X12_165 pk_n rfl (m_X12_isPlace l G _ (by omega)) rfl rfl (Nat.le_of_ble_eq_true rfl) (by decide) ⟨rfl, rfl, rfl⟩ (dk dd_X12_aim_0 1 rfl) sk1 sm_n ?_
  refine V_ifz_eq (tgt := 24) h (dk dd_X12_aim_0 2 rfl) rfl (fun c4 => ?_) (fun c4 => ?_)
  · refine V_ldc h q4_104 (dk dd_X12_aim_0 11 rfl) ?_
    refine V_iret h hF (dk dd_X12_aim_0 12 rfl) ⟨Nat.le_of_ble_eq_true rfl, Nat.le_of_ble_eq_true rfl⟩ ?_
    exact det_i (by rw [if_neg (by omega)]) rfl
  · refine V_iload_n h (dk dd_X12_aim_0 3 rfl) rfl get2 ?_
    refine V_callS h st1 ci_X12_165 pk_n rfl (m_X12_isPlace l G _ (by omega)) rfl rfl (Nat.le_of_ble_eq_true rfl) (by decide) ⟨rfl, rfl, rfl⟩ (dk dd_X12_aim_0 4 rfl) sk1 sm_n ?_
    refine V_ifz_eq (tgt := 24) h (dk dd_X12_aim_0 5 rfl) rfl (fun c11 => ?_) (fun c11 => ?_)
    · refine V_ldc h q4_104 (dk dd_X12_aim_0 11 rfl) ?_
      refine V_iret h hF (dk dd_X12_aim_0 12 rfl) ⟨Nat.le_of_ble_eq_true rfl, Nat.le_of_ble_eq_true rfl⟩ ?_
      exact det_i (by rw [if_neg (by omega)]) rfl
    · refine V_iload_n h (dk dd_X12_aim_0 6 rfl) rfl get3 ?_
      refine V_iconst h (dk dd_X12_aim_0 7 rfl) ?_
      refine V_bipush h (dk dd_X12_aim_0 8 rfl) (by decide) ?_
      refine V_callS h st3 ci_X12_70 pk_n rfl (m_X12_in l G _ _ _ (by omega) (by omega) (by omega)) rfl rfl (Nat.le_of_ble_eq_true rfl) (by decide) ⟨rfl, rfl, rfl⟩ (dk dd_X12_aim_0 9 rfl) sk1 sm_n ?_
      refine V_ifz_ne (tgt := 27) h (dk dd_X12_aim_0 10 rfl) rfl (fun c21 => ?_) (fun c21 => ?_)
      · refine V_iload_n h (dk dd_X12_aim_0 13 rfl) rfl get2 ?_
        refine V_iload_n h (dk dd_X12_aim_0 14 rfl) rfl get1 ?_
        refine V_isub h (dk dd_X12_aim_0 15 rfl) ?_
        refine V_sipush h (dk dd_X12_aim_0 16 rfl) (by decide) ?_
        refine V_iadd h (dk dd_X12_aim_0 17 rfl) ?_
        refine V_sipush h (dk dd_X12_aim_0 18 rfl) (by decide) ?_
        refine V_iremP h (dk dd_X12_aim_0 19 rfl) (by omega) ?_
        refine V_istore h (dk dd_X12_aim_0 20 rfl) (Nat.le_of_ble_eq_true rfl) rfl set4 ?_
        refine V_iconst h (dk dd_X12_aim_0 21 rfl) ?_
        refine V_istore h (dk dd_X12_aim_0 22 rfl) (Nat.le_of_ble_eq_true rfl) rfl set5 ?_
        have L43 : ∀ (fu : Nat) (a : Int), 1 ≤ a ∧ a ≤ 13860 ∧ AimM (q - p) k a → (13860 - a).toNat < fu → V K (0, 0) 43 [some (.ref x), some (.int (iZ p)), some (.int (iZ q)), some (.int (iZ k)), some (.int (iZ ((q - p + 27720) % 27720))), some (.int (iZ a)), none] [] [] := by
          intro fu
          induction fu with
          | zero => intro a _ hm; exact absurd hm (Nat.not_lt_zero _)
          | succ fu ih43 =>
            intro a hI43 hm43
            obtain ⟨ha0, ha1, hU⟩ := hI43
            have hw : 0 ≤ (q - p + 27720) % 27720 ∧ (q - p + 27720) % 27720 < 27720 := by omega
            refine V_iload h (dk dd_X12_aim_0 23 rfl) get5 ?_
            refine V_sipush h (dk dd_X12_aim_0 24 rfl) (by decide) ?_
            refine V_icmp_gt (tgt := 96) h (dk dd_X12_aim_0 25 rfl) rfl (by omega) (fun c48 => ?_) (fun c48 => ?_)
            · refine V_ldc h q4_230 (dk dd_X12_aim_0 49 rfl) ?_
              refine V_iret h hF (dk dd_X12_aim_1 0 rfl) ⟨Nat.le_of_ble_eq_true rfl, Nat.le_of_ble_eq_true rfl⟩ ?_
              have e : a = 13860 := by omega
              subst e
              exact det_i (by rw [if_pos (by omega), if_pos (aimM_e hU)]) rfl
            · have hm := mulR c21 (show 1 ≤ a ∧ a ≤ 13859 by omega)
              refine V_iload_n h (dk dd_X12_aim_0 26 rfl) rfl get3 ?_
              refine V_iload h (dk dd_X12_aim_0 27 rfl) get5 ?_
              refine V_imul h (dk dd_X12_aim_0 28 rfl) ?_
              refine V_sipush h (dk dd_X12_aim_0 29 rfl) (by decide) ?_
              refine V_iremP h (dk dd_X12_aim_0 30 rfl) (by omega) ?_
              refine V_istore h (dk dd_X12_aim_0 31 rfl) (Nat.le_of_ble_eq_true rfl) rfl set6 ?_
              refine V_iload h (dk dd_X12_aim_0 32 rfl) get6 ?_
              refine V_iload h (dk dd_X12_aim_0 33 rfl) get4 ?_
              refine V_icmp_ne (tgt := 71) h (dk dd_X12_aim_0 34 rfl) rfl (by omega) (fun c65 => ?_) (fun c65 => ?_)
              · refine V_sipush h (dk dd_X12_aim_0 37 rfl) (by decide) ?_
                refine V_iload h (dk dd_X12_aim_0 38 rfl) get6 ?_
                refine V_isub h (dk dd_X12_aim_0 39 rfl) ?_
                refine V_sipush h (dk dd_X12_aim_0 40 rfl) (by decide) ?_
                refine V_iremP h (dk dd_X12_aim_0 41 rfl) (by omega) ?_
                refine V_iload h (dk dd_X12_aim_0 42 rfl) get4 ?_
                refine V_icmp_ne (tgt := 90) h (dk dd_X12_aim_0 43 rfl) rfl (by omega) (fun c83 => ?_) (fun c83 => ?_)
                · refine V_iinc h (dk dd_X12_aim_0 47 rfl) get5 (Nat.le_of_ble_eq_true rfl) rfl set5 ?_
                  refine V_goto (tgt := 43) h (dk dd_X12_aim_0 48 rfl) rfl ?_
                  refine V_wk (lw_s (lw_s (lw_s (lw_s (lw_s (lw_s (lw_o lw_n))))))) ?_
                  exact ih43 _ (⟨by omega, by omega, aimM_s c21 ⟨by omega, by omega⟩ hU c65 c83⟩) (by omega)
                · refine V_iload h (dk dd_X12_aim_0 44 rfl) get5 ?_
                  refine V_ineg h (dk dd_X12_aim_0 45 rfl) ?_
                  refine V_iret h hF (dk dd_X12_aim_0 46 rfl) ⟨Nat.le_of_ble_eq_true rfl, Nat.le_of_ble_eq_true rfl⟩ ?_
                  exact det_i (by rw [if_pos (by omega), aimM_n c21 ⟨by omega, by omega⟩ hU c65 c83, if_neg (by omega)]) rfl
              · refine V_iload h (dk dd_X12_aim_0 35 rfl) get5 ?_
                refine V_iret h hF (dk dd_X12_aim_0 36 rfl) ⟨Nat.le_of_ble_eq_true rfl, Nat.le_of_ble_eq_true rfl⟩ ?_
                exact det_i (by rw [if_pos (by omega), aimM_p c21 ⟨by omega, by omega⟩ hU c65, if_neg (by omega)]) rfl
        exact L43 _ _ (⟨by omega, by omega, fun s k2 h1 h2 _ => by have := h2.1; omega⟩) (Nat.lt_succ_self _)
      · refine V_ldc h q4_104 (dk dd_X12_aim_0 11 rfl) ?_
        refine V_iret h hF (dk dd_X12_aim_0 12 rfl) ⟨Nat.le_of_ble_eq_true rfl, Nat.le_of_ble_eq_true rfl⟩ ?_
        exact det_i (by rw [if_neg (by omega)]) rfl

set_option maxHeartbeats 4000000 in
set_option maxRecDepth 100000 in
theorem m_X12_widest (l : Launch) (G : GT) (x : Nat) (k : Int) (hk : R32 k) : Ctr l G yX12_widest cX12_widest 6 (Option.some FieldType.int) (rmO 2 0 0 45) [.ref x, .int (iZ k)] [] (Det (some (.int (iZ (if 0 ≤ k ∧ k ≤ 1000000 then (if k ≤ causF 1 then 1 else -100009) else -100001)))) []) := by
  refine Ctr.go (own := RX12) (nm := "widest") (by decide +kernel) rfl rfl [some (.ref x), some (.int (iZ k)), none, none, none, none] 4 rfl rfl (Nat.le_of_ble_eq_true rfl) ?_
  intro K h hF
  refine V_iload_n h (dk dd_X12_widest_0 0 rfl) rfl get1 ?_
  refine V_iconst h (dk dd_X12_widest_0 1 rfl) ?_
  refine V_ldc h q4_142 (dk dd_X12_widest_0 2 rfl) ?_
  refine V_callS h st3 ci_X12_70 pk_n rfl (m_X12_in l G _ _ _ (by omega) (by omega) (by omega)) rfl rfl (Nat.le_of_ble_eq_true rfl) (by decide) ⟨rfl, rfl, rfl⟩ (dk dd_X12_widest_0 3 rfl) sk1 sm_n ?_
  refine V_ifz_ne (tgt := 13) h (dk dd_X12_widest_0 4 rfl) rfl (fun c7 => ?_) (fun c7 => ?_)
  · refine V_ldc h q4_230 (dk dd_X12_widest_0 7 rfl) ?_
    refine V_istore_n h (dk dd_X12_widest_0 8 rfl) rfl (Nat.le_of_ble_eq_true rfl) rfl set2 ?_
    refine V_iconst h (dk dd_X12_widest_0 9 rfl) ?_
    refine V_istore_n h (dk dd_X12_widest_0 10 rfl) rfl (Nat.le_of_ble_eq_true rfl) rfl set3 ?_
    refine V_iconst h (dk dd_X12_widest_0 11 rfl) ?_
    refine V_istore h (dk dd_X12_widest_0 12 rfl) (Nat.le_of_ble_eq_true rfl) rfl set4 ?_
    have L21 : ∀ (fu : Nat) (b m a : Int), 1 ≤ a ∧ a ≤ 13860 ∧ (0 ≤ m ∧ m ≤ 27720) ∧ WidI k b m a → (13860 - a).toNat < fu → V K (0, 0) 21 [some (.ref x), some (.int (iZ k)), some (.int (iZ b)), some (.int (iZ m)), some (.int (iZ a)), none] [] [] := by
      intro fu
      induction fu with
      | zero => intro b m a _ hm; exact absurd hm (Nat.not_lt_zero _)
      | succ fu ih21 =>
        intro b m a hI21 hm21
        obtain ⟨ha0, ha1, hm, hU⟩ := hI21
        refine V_iload h (dk dd_X12_widest_0 13 rfl) get4 ?_
        refine V_sipush h (dk dd_X12_widest_0 14 rfl) (by decide) ?_
        refine V_icmp_gt (tgt := 67) h (dk dd_X12_widest_0 15 rfl) rfl (by omega) (fun c26 => ?_) (fun c26 => ?_)
        · refine V_iload_n h (dk dd_X12_widest_0 34 rfl) rfl get2 ?_
          refine V_iret h hF (dk dd_X12_widest_0 35 rfl) ⟨Nat.le_of_ble_eq_true rfl, Nat.le_of_ble_eq_true rfl⟩ ?_
          have e : a = 13860 := by omega
          subst e
          exact det_i (by rw [if_pos (by assumption)]; exact wid_e hU) rfl
        · have hg := gcd_pos a
          have hg2 := gcd_le a
          have ho := ord_R a
          have hR := caus_R (s := a) (by omega)
          refine V_sipush h (dk dd_X12_widest_0 16 rfl) (by decide) ?_
          refine V_iload h (dk dd_X12_widest_0 17 rfl) get4 ?_
          refine V_callS h st1 ci_X12_162 pk_n rfl (m_X12_common l G _ (by omega)) rfl rfl (Nat.le_of_ble_eq_true rfl) (by decide) ⟨rfl, rfl, rfl⟩ (dk dd_X12_widest_0 18 rfl) sk1 sm_n ?_
          refine V_idivP h (dk dd_X12_widest_0 19 rfl) (by omega) ?_
          refine V_istore h (dk dd_X12_widest_0 20 rfl) (Nat.le_of_ble_eq_true rfl) rfl set5 ?_
          refine V_iload h (dk dd_X12_widest_0 21 rfl) get5 ?_
          refine V_iload_n h (dk dd_X12_widest_0 22 rfl) rfl get3 ?_
          refine V_icmp_le (tgt := 61) h (dk dd_X12_widest_0 23 rfl) rfl (by omega) (fun c43 => ?_) (fun c43 => ?_)
          · refine V_iinc h (dk dd_X12_widest_0 32 rfl) get4 (Nat.le_of_ble_eq_true rfl) rfl set4 ?_
            refine V_goto (tgt := 21) h (dk dd_X12_widest_0 33 rfl) rfl ?_
            refine V_wk (lw_s (lw_s (lw_s (lw_s (lw_s (lw_o lw_n)))))) ?_
            exact ih21 _ _ _ ⟨by omega, by omega, hm, wid_no ⟨by omega, by omega⟩ hU (Or.inl (by omega))⟩ (by omega)
          · refine V_iload h (dk dd_X12_widest_0 24 rfl) get4 ?_
            refine V_callS h st1 ci_X12_156 pk_n rfl (m_X12_circle l G _ (by omega)) rfl rfl (Nat.le_of_ble_eq_true rfl) (by decide) ⟨rfl, rfl, rfl⟩ (dk dd_X12_widest_0 25 rfl) sk1 sm_n ?_
            refine V_iload_n h (dk dd_X12_widest_0 26 rfl) rfl get1 ?_
            refine V_icmp_lt (tgt := 61) h (dk dd_X12_widest_0 27 rfl) rfl (by omega) (fun c52 => ?_) (fun c52 => ?_)
            · refine V_iinc h (dk dd_X12_widest_0 32 rfl) get4 (Nat.le_of_ble_eq_true rfl) rfl set4 ?_
              refine V_goto (tgt := 21) h (dk dd_X12_widest_0 33 rfl) rfl ?_
              refine V_wk (lw_s (lw_s (lw_s (lw_s (lw_s (lw_o lw_n)))))) ?_
              exact ih21 _ _ _ ⟨by omega, by omega, hm, wid_no ⟨by omega, by omega⟩ hU (Or.inr (by omega))⟩ (by omega)
            · refine V_iload h (dk dd_X12_widest_0 28 rfl) get4 ?_
              refine V_istore_n h (dk dd_X12_widest_0 29 rfl) rfl (Nat.le_of_ble_eq_true rfl) rfl set2 ?_
              refine V_iload h (dk dd_X12_widest_0 30 rfl) get5 ?_
              refine V_istore_n h (dk dd_X12_widest_0 31 rfl) rfl (Nat.le_of_ble_eq_true rfl) rfl set3 ?_
              refine V_iinc h (dk dd_X12_widest_0 32 rfl) get4 (Nat.le_of_ble_eq_true rfl) rfl set4 ?_
              refine V_goto (tgt := 21) h (dk dd_X12_widest_0 33 rfl) rfl ?_
              refine V_wk (lw_s (lw_s (lw_s (lw_s (lw_s (lw_o lw_n)))))) ?_
              exact ih21 _ _ _ ⟨by omega, by omega, ho, wid_yes ⟨by omega, by omega⟩ hU (by omega) (by omega)⟩ (by omega)
    exact L21 _ _ _ _ (⟨by omega, by omega, by omega, fun _ => ⟨rfl, rfl⟩, fun _ h => by omega, fun _ => ⟨rfl, rfl⟩⟩) (Nat.lt_succ_self _)
  · refine V_ldc h q4_104 (dk dd_X12_widest_0 5 rfl) ?_
    refine V_iret h hF (dk dd_X12_widest_0 6 rfl) ⟨Nat.le_of_ble_eq_true rfl, Nat.le_of_ble_eq_true rfl⟩ ?_
    exact det_i (by rw [if_neg (by omega)]) rfl

