/-! Circle: isBetter, smallestStep -/
set_option maxHeartbeats 4000000 in
set_option maxRecDepth 100000 in
theorem m_X0_isBetter (l : Launch) (G : GT) (s b : Int) (hs : -13859 ≤ s ∧ s ≤ 13859) (hb : -13859 ≤ b ∧ b ≤ 13859) : Ctr l G yX0_isBetter cX0_isBetter 4 (Option.some FieldType.boolean) (rmO 1 0 0 20) [.int (iZ s), .int (iZ b)] [] (Det (some (.int (iZ (bZ (betP s b))))) []) := by
  refine Ctr.go (own := RX0) (nm := "isBetter") (by decide +kernel) rfl rfl [some (.int (iZ s)), some (.int (iZ b)), none, none] 2 rfl rfl (Nat.le_of_ble_eq_true rfl) ?_
  intro K h hF
  refine V_iload_n h (dk dd_X0_isBetter_0 0 rfl) rfl get0 ?_
  refine V_callS h st1 ci_X0_22 pk_n rfl (m_J9_abs_0f7a4 l G _ (by omega)) rfl rfl (Nat.le_of_ble_eq_true rfl) (by decide) ⟨rfl, rfl, rfl⟩ (dk dd_X0_isBetter_0 1 rfl) sk1 sm_n ?_
  refine V_istore_n h (dk dd_X0_isBetter_0 2 rfl) rfl (Nat.le_of_ble_eq_true rfl) rfl set2 ?_
  refine V_iload_n h (dk dd_X0_isBetter_0 3 rfl) rfl get1 ?_
  refine V_callS h st1 ci_X0_22 pk_n rfl (m_J9_abs_0f7a4 l G _ (by omega)) rfl rfl (Nat.le_of_ble_eq_true rfl) (by decide) ⟨rfl, rfl, rfl⟩ (dk dd_X0_isBetter_0 4 rfl) sk1 sm_n ?_
  refine V_istore_n h (dk dd_X0_isBetter_0 5 rfl) rfl (Nat.le_of_ble_eq_true rfl) rfl set3 ?_
  refine V_iload_n h (dk dd_X0_isBetter_0 6 rfl) rfl get1 ?_
  refine V_if_eq (tgt := 28) h (dk dd_X0_isBetter_0 7 rfl) rfl (by omega) (fun c11 => ?_) (fun c11 => ?_)
  · refine V_iconst h (dk dd_X0_isBetter_0 16 rfl) ?_
    refine V_goto (tgt := 33) h (dk dd_X0_isBetter_0 17 rfl) rfl ?_
    refine V_zret h hF (dk dd_X0_isBetter_0 19 rfl) ⟨Nat.le_of_ble_eq_true rfl, Nat.le_of_ble_eq_true rfl⟩ (by first | exact Or.inr rfl | exact Or.inl rfl | exact bZ_01 | omega) ?_
    exact det_i (by first | exact (bZ_t (by omega)).symm | exact (bZ_f (by omega)).symm | rfl) rfl
  · refine V_iload_n h (dk dd_X0_isBetter_0 8 rfl) rfl get2 ?_
    refine V_iload_n h (dk dd_X0_isBetter_0 9 rfl) rfl get3 ?_
    refine V_icmp_lt (tgt := 28) h (dk dd_X0_isBetter_0 10 rfl) rfl (by omega) (fun c16 => ?_) (fun c16 => ?_)
    · refine V_iconst h (dk dd_X0_isBetter_0 16 rfl) ?_
      refine V_goto (tgt := 33) h (dk dd_X0_isBetter_0 17 rfl) rfl ?_
      refine V_zret h hF (dk dd_X0_isBetter_0 19 rfl) ⟨Nat.le_of_ble_eq_true rfl, Nat.le_of_ble_eq_true rfl⟩ (by first | exact Or.inr rfl | exact Or.inl rfl | exact bZ_01 | omega) ?_
      exact det_i (by first | exact (bZ_t (by omega)).symm | exact (bZ_f (by omega)).symm | rfl) rfl
    · refine V_iload_n h (dk dd_X0_isBetter_0 11 rfl) rfl get2 ?_
      refine V_iload_n h (dk dd_X0_isBetter_0 12 rfl) rfl get3 ?_
      refine V_icmp_ne (tgt := 32) h (dk dd_X0_isBetter_0 13 rfl) rfl (by omega) (fun c21 => ?_) (fun c21 => ?_)
      · refine V_iconst h (dk dd_X0_isBetter_0 18 rfl) ?_
        refine V_zret h hF (dk dd_X0_isBetter_0 19 rfl) ⟨Nat.le_of_ble_eq_true rfl, Nat.le_of_ble_eq_true rfl⟩ (by first | exact Or.inr rfl | exact Or.inl rfl | exact bZ_01 | omega) ?_
        exact det_i (by first | exact (bZ_t (by omega)).symm | exact (bZ_f (by omega)).symm | rfl) rfl
      · refine V_iload_n h (dk dd_X0_isBetter_0 14 rfl) rfl get0 ?_
        refine V_if_le (tgt := 32) h (dk dd_X0_isBetter_0 15 rfl) rfl (by omega) (fun c25 => ?_) (fun c25 => ?_)
        · refine V_iconst h (dk dd_X0_isBetter_0 18 rfl) ?_
          refine V_zret h hF (dk dd_X0_isBetter_0 19 rfl) ⟨Nat.le_of_ble_eq_true rfl, Nat.le_of_ble_eq_true rfl⟩ (by first | exact Or.inr rfl | exact Or.inl rfl | exact bZ_01 | omega) ?_
          exact det_i (by first | exact (bZ_t (by omega)).symm | exact (bZ_f (by omega)).symm | rfl) rfl
        · refine V_iconst h (dk dd_X0_isBetter_0 16 rfl) ?_
          refine V_goto (tgt := 33) h (dk dd_X0_isBetter_0 17 rfl) rfl ?_
          refine V_zret h hF (dk dd_X0_isBetter_0 19 rfl) ⟨Nat.le_of_ble_eq_true rfl, Nat.le_of_ble_eq_true rfl⟩ (by first | exact Or.inr rfl | exact Or.inl rfl | exact bZ_01 | omega) ?_
          exact det_i (by first | exact (bZ_t (by omega)).symm | exact (bZ_f (by omega)).symm | rfl) rfl

set_option maxHeartbeats 4000000 in
set_option maxRecDepth 100000 in
theorem m_X0_smallestStep (l : Launch) (G : GT) (d c : Int) (hd : -27720 < d ∧ d < 27720) (hc : 1 ≤ c ∧ c ≤ 50) : Ctr l G yX0_smallestStep cX0_smallestStep 5 (Option.some FieldType.int) (rmO 2 0 0 43) [.int (iZ d), .int (iZ c)] [] (Det (some (.int (iZ (aimF d c)))) []) := by
  refine Ctr.go (own := RX0) (nm := "smallestStep") (by decide +kernel) rfl rfl [some (.int (iZ d)), some (.int (iZ c)), none, none, none] 3 rfl rfl (Nat.le_of_ble_eq_true rfl) ?_
  intro K h hF
  refine V_iload_n h (dk dd_X0_smallestStep_0 0 rfl) rfl get1 ?_
  refine V_iconst h (dk dd_X0_smallestStep_0 1 rfl) ?_
  refine V_icmp_ge (tgt := 7) h (dk dd_X0_smallestStep_0 2 rfl) rfl (by omega) (fun c2 => ?_) (fun c2 => ?_)
  · refine V_iconst h (dk dd_X0_smallestStep_0 5 rfl) ?_
    refine V_istore_n h (dk dd_X0_smallestStep_0 6 rfl) rfl (Nat.le_of_ble_eq_true rfl) rfl set2 ?_
    refine V_iload_n h (dk dd_X0_smallestStep_0 7 rfl) rfl get1 ?_
    refine V_ineg h (dk dd_X0_smallestStep_0 8 rfl) ?_
    refine V_istore_n h (dk dd_X0_smallestStep_0 9 rfl) rfl (Nat.le_of_ble_eq_true rfl) rfl set3 ?_
    have L12 : ∀ (fu : Nat) (b a : Int), -c ≤ a ∧ a ≤ c + 1 ∧ AimU d c a b → (c + 1 - a).toNat < fu → V K (0, 0) 12 [some (.int (iZ d)), some (.int (iZ c)), some (.int (iZ b)), some (.int (iZ a)), none] [] [] := by
      intro fu
      induction fu with
      | zero => intro b a _ hm; exact absurd hm (Nat.not_lt_zero _)
      | succ fu ih12 =>
        intro b a hI12 hm12
        obtain ⟨ha0, ha1, hU⟩ := hI12
        have hR := aimU_R hU
        refine V_iload_n h (dk dd_X0_smallestStep_0 10 rfl) rfl get3 ?_
        refine V_iload_n h (dk dd_X0_smallestStep_0 11 rfl) rfl get1 ?_
        refine V_icmp_gt (tgt := 65) h (dk dd_X0_smallestStep_0 12 rfl) rfl (by omega) (fun c14 => ?_) (fun c14 => ?_)
        · refine V_iload_n h (dk dd_X0_smallestStep_0 40 rfl) rfl get2 ?_
          refine V_iret h hF (dk dd_X0_smallestStep_0 41 rfl) ⟨Nat.le_of_ble_eq_true rfl, Nat.le_of_ble_eq_true rfl⟩ ?_
          have e : a = c + 1 := by omega
          subst e
          exact det_i (aimU_e hd (by omega) hU).symm rfl
        · have hw := way_R hd hc (show -c ≤ a ∧ a ≤ c by omega)
          refine V_iload_n h (dk dd_X0_smallestStep_0 13 rfl) rfl get0 ?_
          refine V_iload_n h (dk dd_X0_smallestStep_0 14 rfl) rfl get3 ?_
          refine V_sipush h (dk dd_X0_smallestStep_0 15 rfl) (by decide) ?_
          refine V_imul h (dk dd_X0_smallestStep_0 16 rfl) ?_
          refine V_iadd h (dk dd_X0_smallestStep_0 17 rfl) ?_
          refine V_istore h (dk dd_X0_smallestStep_0 18 rfl) (Nat.le_of_ble_eq_true rfl) rfl set4 ?_
          refine V_iload h (dk dd_X0_smallestStep_0 19 rfl) get4 ?_
          refine V_iload_n h (dk dd_X0_smallestStep_0 20 rfl) rfl get1 ?_
          refine V_irem h (dk dd_X0_smallestStep_0 21 rfl) (⟨hw.1, ⟨by omega, by omega⟩, by omega⟩) ?_
          refine V_if_ne (tgt := 59) h (dk dd_X0_smallestStep_0 22 rfl) rfl (hw.2.2) (fun c30 => ?_) (fun c30 => ?_)
          · refine V_iinc h (dk dd_X0_smallestStep_0 38 rfl) get3 (Nat.le_of_ble_eq_true rfl) rfl set3 ?_
            refine V_goto (tgt := 12) h (dk dd_X0_smallestStep_0 39 rfl) rfl ?_
            refine V_wk (lw_s (lw_s (lw_s (lw_s (lw_o lw_n))))) ?_
            exact ih12 _ _ ⟨by omega, by omega, aimU_a (by omega) hU c30⟩ (by omega)
          · refine V_iload h (dk dd_X0_smallestStep_0 23 rfl) get4 ?_
            refine V_iload_n h (dk dd_X0_smallestStep_0 24 rfl) rfl get1 ?_
            refine V_idiv h (dk dd_X0_smallestStep_0 25 rfl) (⟨hw.1, ⟨by omega, by omega⟩, by omega⟩) ?_
            refine V_callS h st1 ci_X0_32 pk_n rfl (m_X0_isStep l G _ (hw.2.1)) rfl rfl (Nat.le_of_ble_eq_true rfl) (by decide) ⟨rfl, rfl, rfl⟩ (dk dd_X0_smallestStep_0 26 rfl) sk1 sm_n ?_
            refine V_ifz_eq (tgt := 59) h (dk dd_X0_smallestStep_0 27 rfl) rfl (fun c40 => ?_) (fun c40 => ?_)
            · refine V_iinc h (dk dd_X0_smallestStep_0 38 rfl) get3 (Nat.le_of_ble_eq_true rfl) rfl set3 ?_
              refine V_goto (tgt := 12) h (dk dd_X0_smallestStep_0 39 rfl) rfl ?_
              refine V_wk (lw_s (lw_s (lw_s (lw_s (lw_o lw_n))))) ?_
              exact ih12 _ _ ⟨by omega, by omega, aimU_b (by omega) hU c40⟩ (by omega)
            · refine V_iload h (dk dd_X0_smallestStep_0 28 rfl) get4 ?_
              refine V_iload_n h (dk dd_X0_smallestStep_0 29 rfl) rfl get1 ?_
              refine V_idiv h (dk dd_X0_smallestStep_0 30 rfl) (⟨hw.1, ⟨by omega, by omega⟩, by omega⟩) ?_
              refine V_iload_n h (dk dd_X0_smallestStep_0 31 rfl) rfl get2 ?_
              refine V_callS h st2 ci_X0_36 pk_n rfl (m_X0_isBetter l G _ _ (c40.2) (by omega)) rfl rfl (Nat.le_of_ble_eq_true rfl) (by decide) ⟨rfl, rfl, rfl⟩ (dk dd_X0_smallestStep_0 32 rfl) sk1 sm_n ?_
              refine V_ifz_eq (tgt := 59) h (dk dd_X0_smallestStep_0 33 rfl) rfl (fun c51 => ?_) (fun c51 => ?_)
              · refine V_iinc h (dk dd_X0_smallestStep_0 38 rfl) get3 (Nat.le_of_ble_eq_true rfl) rfl set3 ?_
                refine V_goto (tgt := 12) h (dk dd_X0_smallestStep_0 39 rfl) rfl ?_
                refine V_wk (lw_s (lw_s (lw_s (lw_s (lw_o lw_n))))) ?_
                exact ih12 _ _ ⟨by omega, by omega, aimU_c (by omega) hU c51⟩ (by omega)
              · refine V_iload h (dk dd_X0_smallestStep_0 34 rfl) get4 ?_
                refine V_iload_n h (dk dd_X0_smallestStep_0 35 rfl) rfl get1 ?_
                refine V_idiv h (dk dd_X0_smallestStep_0 36 rfl) (⟨hw.1, ⟨by omega, by omega⟩, by omega⟩) ?_
                refine V_istore_n h (dk dd_X0_smallestStep_0 37 rfl) rfl (Nat.le_of_ble_eq_true rfl) rfl set2 ?_
                refine V_iinc h (dk dd_X0_smallestStep_0 38 rfl) get3 (Nat.le_of_ble_eq_true rfl) rfl set3 ?_
                refine V_goto (tgt := 12) h (dk dd_X0_smallestStep_0 39 rfl) rfl ?_
                refine V_wk (lw_s (lw_s (lw_s (lw_s (lw_o lw_n))))) ?_
                exact ih12 _ _ ⟨by omega, by omega, aimU_d (by omega) hU c30 c40 c51⟩ (by omega)
    exact L12 _ _ _ (⟨by omega, by omega, aimU_0 hd (by omega)⟩) (Nat.lt_succ_self _)
  · exfalso; omega

