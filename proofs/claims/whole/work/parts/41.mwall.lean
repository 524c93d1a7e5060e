/-! the reference: wall and past -/
set_option maxHeartbeats 4000000 in
set_option maxRecDepth 100000 in
theorem m_X12_in (l : Launch) (G : GT) (a b c : Int) (ha : R32 a) (hb : R32 b) (hc : R32 c) : Ctr l G yX12_in cX12_in 3 (Option.some FieldType.boolean) (rmO 0 0 0 0) [.int (iZ a), .int (iZ b), .int (iZ c)] [] (Det (some (.int (iZ (bZ (b ≤ a ∧ a ≤ c))))) []) := by
  refine Ctr.go (own := RX12) (nm := "in") (by decide +kernel) rfl rfl [some (.int (iZ a)), some (.int (iZ b)), some (.int (iZ c))] 0 rfl rfl (Nat.le_of_ble_eq_true rfl) ?_
  intro K h hF
  refine V_iload_n h (dk dd_X12_in_0 0 rfl) rfl get0 ?_
  refine V_iload_n h (dk dd_X12_in_0 1 rfl) rfl get1 ?_
  refine V_icmp_lt (tgt := 14) h (dk dd_X12_in_0 2 rfl) rfl (by omega) (fun c2 => ?_) (fun c2 => ?_)
  · refine V_iconst h (dk dd_X12_in_0 8 rfl) ?_
    refine V_zret h hF (dk dd_X12_in_0 9 rfl) ⟨Nat.le_of_ble_eq_true rfl, Nat.le_of_ble_eq_true rfl⟩ (by first | exact Or.inr rfl | exact Or.inl rfl | exact bZ_01 | omega) ?_
    exact det_i (by first | exact (bZ_t (by omega)).symm | exact (bZ_f (by omega)).symm | rfl) rfl
  · refine V_iload_n h (dk dd_X12_in_0 3 rfl) rfl get0 ?_
    refine V_iload_n h (dk dd_X12_in_0 4 rfl) rfl get2 ?_
    refine V_icmp_gt (tgt := 14) h (dk dd_X12_in_0 5 rfl) rfl (by omega) (fun c7 => ?_) (fun c7 => ?_)
    · refine V_iconst h (dk dd_X12_in_0 8 rfl) ?_
      refine V_zret h hF (dk dd_X12_in_0 9 rfl) ⟨Nat.le_of_ble_eq_true rfl, Nat.le_of_ble_eq_true rfl⟩ (by first | exact Or.inr rfl | exact Or.inl rfl | exact bZ_01 | omega) ?_
      exact det_i (by first | exact (bZ_t (by omega)).symm | exact (bZ_f (by omega)).symm | rfl) rfl
    · refine V_iconst h (dk dd_X12_in_0 6 rfl) ?_
      refine V_goto (tgt := 15) h (dk dd_X12_in_0 7 rfl) rfl ?_
      refine V_zret h hF (dk dd_X12_in_0 9 rfl) ⟨Nat.le_of_ble_eq_true rfl, Nat.le_of_ble_eq_true rfl⟩ (by first | exact Or.inr rfl | exact Or.inl rfl | exact bZ_01 | omega) ?_
      exact det_i (by first | exact (bZ_t (by omega)).symm | exact (bZ_f (by omega)).symm | rfl) rfl

set_option maxHeartbeats 4000000 in
set_option maxRecDepth 100000 in
theorem m_X12_isNumber (l : Launch) (G : GT) (a b : Int) (ha : R32 a) (hb : R32 b) : Ctr l G yX12_isNumber cX12_isNumber 2 (Option.some FieldType.boolean) (rmO 1 0 0 22) [.int (iZ a), .int (iZ b)] [] (Det (some (.int (iZ (bZ (numP a b))))) []) := by
  refine Ctr.go (own := RX12) (nm := "isNumber") (by decide +kernel) rfl rfl [some (.int (iZ a)), some (.int (iZ b))] 0 rfl rfl (Nat.le_of_ble_eq_true rfl) ?_
  intro K h hF
  refine V_iload_n h (dk dd_X12_isNumber_0 0 rfl) rfl get0 ?_
  refine V_if_ne (tgt := 15) h (dk dd_X12_isNumber_0 1 rfl) rfl (by omega) (fun c1 => ?_) (fun c1 => ?_)
  · refine V_iload_n h (dk dd_X12_isNumber_0 7 rfl) rfl get0 ?_
    refine V_iconst h (dk dd_X12_isNumber_0 8 rfl) ?_
    refine V_icmp_eq (tgt := 25) h (dk dd_X12_isNumber_0 9 rfl) rfl (by omega) (fun c17 => ?_) (fun c17 => ?_)
    · refine V_iload_n h (dk dd_X12_isNumber_0 13 rfl) rfl get1 ?_
      refine V_sipush h (dk dd_X12_isNumber_0 14 rfl) (by decide) ?_
      refine V_sipush h (dk dd_X12_isNumber_0 15 rfl) (by decide) ?_
      refine V_callS h st3 ci_X12_70 pk_n rfl (m_X12_in l G _ _ _ (by omega) (by omega) (by omega)) rfl rfl (Nat.le_of_ble_eq_true rfl) (by decide) ⟨rfl, rfl, rfl⟩ (dk dd_X12_isNumber_0 16 rfl) sk1 sm_n ?_
      refine V_goto (tgt := 47) h (dk dd_X12_isNumber_0 17 rfl) rfl ?_
      refine V_zret h hF (dk dd_X12_isNumber_0 23 rfl) ⟨Nat.le_of_ble_eq_true rfl, Nat.le_of_ble_eq_true rfl⟩ (by first | exact Or.inr rfl | exact Or.inl rfl | exact bZ_01 | omega) ?_
      first | exact det_i (bZ_t (P := numP a b) (by unfold numP; omega)).symm rfl | exact det_i (bZ_f (P := numP a b) (by unfold numP; omega)).symm rfl | exact det_i (bZ_iff (by unfold numP; omega)) rfl
    · refine V_iload_n h (dk dd_X12_isNumber_0 10 rfl) rfl get0 ?_
      refine V_iconst h (dk dd_X12_isNumber_0 11 rfl) ?_
      refine V_icmp_ne (tgt := 38) h (dk dd_X12_isNumber_0 12 rfl) rfl (by omega) (fun c22 => ?_) (fun c22 => ?_)
      · refine V_iload_n h (dk dd_X12_isNumber_0 18 rfl) rfl get1 ?_
        refine V_if_ne (tgt := 46) h (dk dd_X12_isNumber_0 19 rfl) rfl (by omega) (fun c39 => ?_) (fun c39 => ?_)
        · refine V_iconst h (dk dd_X12_isNumber_0 22 rfl) ?_
          refine V_zret h hF (dk dd_X12_isNumber_0 23 rfl) ⟨Nat.le_of_ble_eq_true rfl, Nat.le_of_ble_eq_true rfl⟩ (by first | exact Or.inr rfl | exact Or.inl rfl | exact bZ_01 | omega) ?_
          first | exact det_i (bZ_t (P := numP a b) (by unfold numP; omega)).symm rfl | exact det_i (bZ_f (P := numP a b) (by unfold numP; omega)).symm rfl | exact det_i (bZ_iff (by unfold numP; omega)) rfl
        · refine V_iconst h (dk dd_X12_isNumber_0 20 rfl) ?_
          refine V_goto (tgt := 47) h (dk dd_X12_isNumber_0 21 rfl) rfl ?_
          refine V_zret h hF (dk dd_X12_isNumber_0 23 rfl) ⟨Nat.le_of_ble_eq_true rfl, Nat.le_of_ble_eq_true rfl⟩ (by first | exact Or.inr rfl | exact Or.inl rfl | exact bZ_01 | omega) ?_
          first | exact det_i (bZ_t (P := numP a b) (by unfold numP; omega)).symm rfl | exact det_i (bZ_f (P := numP a b) (by unfold numP; omega)).symm rfl | exact det_i (bZ_iff (by unfold numP; omega)) rfl
      · refine V_iload_n h (dk dd_X12_isNumber_0 13 rfl) rfl get1 ?_
        refine V_sipush h (dk dd_X12_isNumber_0 14 rfl) (by decide) ?_
        refine V_sipush h (dk dd_X12_isNumber_0 15 rfl) (by decide) ?_
        refine V_callS h st3 ci_X12_70 pk_n rfl (m_X12_in l G _ _ _ (by omega) (by omega) (by omega)) rfl rfl (Nat.le_of_ble_eq_true rfl) (by decide) ⟨rfl, rfl, rfl⟩ (dk dd_X12_isNumber_0 16 rfl) sk1 sm_n ?_
        refine V_goto (tgt := 47) h (dk dd_X12_isNumber_0 17 rfl) rfl ?_
        refine V_zret h hF (dk dd_X12_isNumber_0 23 rfl) ⟨Nat.le_of_ble_eq_true rfl, Nat.le_of_ble_eq_true rfl⟩ (by first | exact Or.inr rfl | exact Or.inl rfl | exact bZ_01 | omega) ?_
        first | exact det_i (bZ_t (P := numP a b) (by unfold numP; omega)).symm rfl | exact det_i (bZ_f (P := numP a b) (by unfold numP; omega)).symm rfl | exact det_i (bZ_iff (by unfold numP; omega)) rfl
  · refine V_iload_n h (dk dd_X12_isNumber_0 2 rfl) rfl get1 ?_
    refine V_iconst h (dk dd_X12_isNumber_0 3 rfl) ?_
    refine V_sipush h (dk dd_X12_isNumber_0 4 rfl) (by decide) ?_
    refine V_callS h st3 ci_X12_70 pk_n rfl (m_X12_in l G _ _ _ (by omega) (by omega) (by omega)) rfl rfl (Nat.le_of_ble_eq_true rfl) (by decide) ⟨rfl, rfl, rfl⟩ (dk dd_X12_isNumber_0 5 rfl) sk1 sm_n ?_
    refine V_goto (tgt := 47) h (dk dd_X12_isNumber_0 6 rfl) rfl ?_
    refine V_zret h hF (dk dd_X12_isNumber_0 23 rfl) ⟨Nat.le_of_ble_eq_true rfl, Nat.le_of_ble_eq_true rfl⟩ (by first | exact Or.inr rfl | exact Or.inl rfl | exact bZ_01 | omega) ?_
    first | exact det_i (bZ_t (P := numP a b) (by unfold numP; omega)).symm rfl | exact det_i (bZ_f (P := numP a b) (by unfold numP; omega)).symm rfl | exact det_i (bZ_iff (by unfold numP; omega)) rfl

set_option maxHeartbeats 4000000 in
set_option maxRecDepth 100000 in
theorem m_X12_act (l : Launch) (G : GT) (x : Nat) (q : Nat → Nat) (pm ty ap fo wr rm hm sb be : Int) (pp vv : Int → Int) (hp : 0 ≤ pm ∧ pm ≤ 5) : Ctr l G yX12_act cX12_act 2 none (rmO 0 0 0 0) [.ref x] [(x, .inr (11, [.ref (q 1), .ref (q 2), .int (iZ pm), .ref (q 3), .int (iZ ty), .int (iZ ap), .int (iZ fo), .int (iZ wr), .ref (q 4), .ref (q 5), .ref (q 6), .ref (q 7), .ref (q 8), .ref (q 9), .ref (q 10), .int (iZ rm), .ref (q 11), .ref (q 12), .int (iZ hm), .ref (q 13), .ref (q 14), .ref (q 15), .ref (q 16), .int (iZ sb), .int (iZ be), .ref (q 17), .ref (q 18)])), ((q 2), .inl (G.2 0, 300, .inl (iF pp))), ((q 1), .inl (G.2 0, 60, .inl (iF vv)))] (Det none [(x, .inr (11, [.ref (q 1), .ref (q 2), .int (iZ (aM pm + 1)), .ref (q 3), .int (iZ ty), .int (iZ ap), .int (iZ fo), .int (iZ wr), .ref (q 4), .ref (q 5), .ref (q 6), .ref (q 7), .ref (q 8), .ref (q 9), .ref (q 10), .int (iZ rm), .ref (q 11), .ref (q 12), .int (iZ hm), .ref (q 13), .ref (q 14), .ref (q 15), .ref (q 16), .int (iZ sb), .int (iZ be), .ref (q 17), .ref (q 18)])), ((q 2), .inl (G.2 0, 300, .inl (iF (aP vv pp pm)))), ((q 1), .inl (G.2 0, 60, .inl (iF vv)))]) := by
  refine Ctr.go (own := RX12) (nm := "act") (by decide +kernel) rfl rfl [some (.ref x), none] 1 rfl rfl (Nat.le_of_ble_eq_true rfl) ?_
  intro K h hF
  have J48 : ∀ (m : Int), m = aM pm → V K (0, 0) 48 [some (.ref x), none] [] [(x, .inr (11, [.ref (q 1), .ref (q 2), .int (iZ m), .ref (q 3), .int (iZ ty), .int (iZ ap), .int (iZ fo), .int (iZ wr), .ref (q 4), .ref (q 5), .ref (q 6), .ref (q 7), .ref (q 8), .ref (q 9), .ref (q 10), .int (iZ rm), .ref (q 11), .ref (q 12), .int (iZ hm), .ref (q 13), .ref (q 14), .ref (q 15), .ref (q 16), .int (iZ sb), .int (iZ be), .ref (q 17), .ref (q 18)])), ((q 2), .inl (G.2 0, 300, .inl (iF (aP0 pp pm)))), ((q 1), .inl (G.2 0, 60, .inl (iF vv)))] := by
    intro m hJ48
    have hm5 : 0 ≤ m ∧ m ≤ 4 := by rw [hJ48]; unfold aM; split <;> omega
    refine V_iconst h (dk dd_X12_act_0 27 rfl) ?_
    refine V_istore_n h (dk dd_X12_act_0 28 rfl) rfl (Nat.le_of_ble_eq_true rfl) rfl set1 ?_
    have L50 : ∀ (fu : Nat) (i : Int), 0 ≤ i ∧ i ≤ 60 → (60 - i).toNat < fu → V K (0, 0) 50 [some (.ref x), some (.int (iZ i))] [] [(x, .inr (11, [.ref (q 1), .ref (q 2), .int (iZ m), .ref (q 3), .int (iZ ty), .int (iZ ap), .int (iZ fo), .int (iZ wr), .ref (q 4), .ref (q 5), .ref (q 6), .ref (q 7), .ref (q 8), .ref (q 9), .ref (q 10), .int (iZ rm), .ref (q 11), .ref (q 12), .int (iZ hm), .ref (q 13), .ref (q 14), .ref (q 15), .ref (q 16), .int (iZ sb), .int (iZ be), .ref (q 17), .ref (q 18)])), ((q 2), .inl (G.2 0, 300, .inl (iF (cpyF vv (aP0 pp pm) 0 (60 * m) i)))), ((q 1), .inl (G.2 0, 60, .inl (iF vv)))] := by
      intro fu
      induction fu with
      | zero => intro i _ hm; exact absurd hm (Nat.not_lt_zero _)
      | succ fu ih50 =>
        intro i hI50 hm50
        refine V_iload_n h (dk dd_X12_act_0 29 rfl) rfl get1 ?_
        refine V_bipush h (dk dd_X12_act_0 30 rfl) (by decide) ?_
        refine V_icmp_ge (tgt := 82) h (dk dd_X12_act_0 31 rfl) rfl (by omega) (fun c53 => ?_) (fun c53 => ?_)
        · have e : i = 60 := by omega
          subst e
          refine V_aload_n h (dk dd_X12_act_0 47 rfl) rfl get0 ?_
          refine V_dup h (dk dd_X12_act_0 48 rfl) rfl ?_
          refine V_get h fl_X12_66 0 get0 get2 (dk dd_X12_act_0 49 rfl) ?_
          refine V_iconst h (dk dd_X12_act_1 0 rfl) ?_
          refine V_iadd h (dk dd_X12_act_1 1 rfl) ?_
          refine V_put h pf_X12_66 0 get0 (Nat.le_of_ble_eq_true rfl) set2 set0 rfl rfl (dk dd_X12_act_1 2 rfl) ?_
          refine V_vret h hF (dk dd_X12_act_1 3 rfl) ⟨Nat.le_of_ble_eq_true rfl, Nat.le_of_ble_eq_true rfl⟩ ?_
          subst hJ48
          exact det_v rfl
        · refine V_aload_n h (dk dd_X12_act_0 32 rfl) rfl get0 ?_
          refine V_get h fl_X12_13 0 get0 get1 (dk dd_X12_act_0 33 rfl) ?_
          refine V_bipush h (dk dd_X12_act_0 34 rfl) (by decide) ?_
          refine V_aload_n h (dk dd_X12_act_0 35 rfl) rfl get0 ?_
          refine V_get h fl_X12_66 0 get0 get2 (dk dd_X12_act_0 36 rfl) ?_
          refine V_imul h (dk dd_X12_act_0 37 rfl) ?_
          refine V_iload_n h (dk dd_X12_act_0 38 rfl) rfl get1 ?_
          refine V_iadd h (dk dd_X12_act_0 39 rfl) ?_
          refine V_aload_n h (dk dd_X12_act_0 40 rfl) rfl get0 ?_
          refine V_get h fl_X12_7 0 get0 get0 (dk dd_X12_act_0 41 rfl) ?_
          refine V_iload_n h (dk dd_X12_act_0 42 rfl) rfl get1 ?_
          refine V_iald h 2 get2 (by omega) (dk dd_X12_act_0 43 rfl) ?_
          refine V_iast h 1 get1 (by omega) set1 (dk dd_X12_act_0 44 rfl) ?_
          rw [show vv i = vv (0 + i) by rw [Int.zero_add], cpy_s hI50.1]
          refine V_iinc h (dk dd_X12_act_0 45 rfl) get1 (Nat.le_of_ble_eq_true rfl) rfl set1 ?_
          refine V_goto (tgt := 50) h (dk dd_X12_act_0 46 rfl) rfl ?_
          exact ih50 _ (by omega) (by omega)
    have e0 := L50 _ 0 (by omega) (Nat.lt_succ_self _)
    rw [cpy_n] at e0
    exact e0
  refine V_aload_n h (dk dd_X12_act_0 0 rfl) rfl get0 ?_
  refine V_get h fl_X12_66 0 get0 get2 (dk dd_X12_act_0 1 rfl) ?_
  refine V_iconst h (dk dd_X12_act_0 2 rfl) ?_
  refine V_icmp_ne (tgt := 48) h (dk dd_X12_act_0 3 rfl) rfl (by omega) (fun c5 => ?_) (fun c5 => ?_)
  · have e1 := J48 pm (by unfold aM; rw [if_neg c5])
    rw [show aP0 pp pm = pp from if_neg c5] at e1
    exact e1
  · refine V_iconst h (dk dd_X12_act_0 4 rfl) ?_
    refine V_istore_n h (dk dd_X12_act_0 5 rfl) rfl (Nat.le_of_ble_eq_true rfl) rfl set1 ?_
    have L10 : ∀ (fu : Nat) (i : Int), 0 ≤ i ∧ i ≤ 240 → (240 - i).toNat < fu → V K (0, 0) 10 [some (.ref x), some (.int (iZ i))] [] [(x, .inr (11, [.ref (q 1), .ref (q 2), .int (iZ pm), .ref (q 3), .int (iZ ty), .int (iZ ap), .int (iZ fo), .int (iZ wr), .ref (q 4), .ref (q 5), .ref (q 6), .ref (q 7), .ref (q 8), .ref (q 9), .ref (q 10), .int (iZ rm), .ref (q 11), .ref (q 12), .int (iZ hm), .ref (q 13), .ref (q 14), .ref (q 15), .ref (q 16), .int (iZ sb), .int (iZ be), .ref (q 17), .ref (q 18)])), ((q 2), .inl (G.2 0, 300, .inl (iF (shF pp 60 i)))), ((q 1), .inl (G.2 0, 60, .inl (iF vv)))] := by
      intro fu
      induction fu with
      | zero => intro i _ hm; exact absurd hm (Nat.not_lt_zero _)
      | succ fu ih10 =>
        intro i hI10 hm10
        refine V_iload_n h (dk dd_X12_act_0 6 rfl) rfl get1 ?_
        refine V_sipush h (dk dd_X12_act_0 7 rfl) (by decide) ?_
        refine V_icmp_ge (tgt := 38) h (dk dd_X12_act_0 8 rfl) rfl (by omega) (fun c14 => ?_) (fun c14 => ?_)
        · have e : i = 240 := by omega
          subst e
          refine V_aload_n h (dk dd_X12_act_0 21 rfl) rfl get0 ?_
          refine V_dup h (dk dd_X12_act_0 22 rfl) rfl ?_
          refine V_get h fl_X12_66 0 get0 get2 (dk dd_X12_act_0 23 rfl) ?_
          refine V_iconst h (dk dd_X12_act_0 24 rfl) ?_
          refine V_isub h (dk dd_X12_act_0 25 rfl) ?_
          refine V_put h pf_X12_66 0 get0 (Nat.le_of_ble_eq_true rfl) set2 set0 rfl rfl (dk dd_X12_act_0 26 rfl) ?_
          refine V_wk (lw_s (lw_o lw_n)) ?_
          have e1 := J48 4 (by unfold aM; rw [if_pos c5])
          rw [show aP0 pp pm = shF pp 60 240 from if_pos c5] at e1
          subst c5
          exact e1
        · refine V_aload_n h (dk dd_X12_act_0 9 rfl) rfl get0 ?_
          refine V_get h fl_X12_13 0 get0 get1 (dk dd_X12_act_0 10 rfl) ?_
          refine V_iload_n h (dk dd_X12_act_0 11 rfl) rfl get1 ?_
          refine V_aload_n h (dk dd_X12_act_0 12 rfl) rfl get0 ?_
          refine V_get h fl_X12_13 0 get0 get1 (dk dd_X12_act_0 13 rfl) ?_
          refine V_iload_n h (dk dd_X12_act_0 14 rfl) rfl get1 ?_
          refine V_bipush h (dk dd_X12_act_0 15 rfl) (by decide) ?_
          refine V_iadd h (dk dd_X12_act_0 16 rfl) ?_
          refine V_iald h 1 get1 (by omega) (dk dd_X12_act_0 17 rfl) ?_
          refine V_iast h 1 get1 (by omega) set1 (dk dd_X12_act_0 18 rfl) ?_
          rw [shF_s (by decide) hI10.1]
          refine V_iinc h (dk dd_X12_act_0 19 rfl) get1 (Nat.le_of_ble_eq_true rfl) rfl set1 ?_
          refine V_goto (tgt := 10) h (dk dd_X12_act_0 20 rfl) rfl ?_
          exact ih10 _ (by omega) (by omega)
    have e0 := L10 _ 0 (by omega) (Nat.lt_succ_self _)
    rw [shF_0] at e0
    exact e0

set_option maxHeartbeats 4000000 in
set_option maxRecDepth 100000 in
theorem m_X12_adds (l : Launch) (G : GT) (x : Nat) (q : Nat → Nat) (pm ty ap fo wr rm hm sb be : Int) (vv : Int → Int) (k p m s : Int) (hv : 0 ≤ vv 0 ∧ vv 0 < 12) : Ctr l G yX12_adds cX12_adds 6 none (rmO 0 0 0 0) [.ref x, .int (iZ k), .int (iZ p), .int (iZ m), .int (iZ s)] [(x, .inr (11, [.ref (q 1), .ref (q 2), .int (iZ pm), .ref (q 3), .int (iZ ty), .int (iZ ap), .int (iZ fo), .int (iZ wr), .ref (q 4), .ref (q 5), .ref (q 6), .ref (q 7), .ref (q 8), .ref (q 9), .ref (q 10), .int (iZ rm), .ref (q 11), .ref (q 12), .int (iZ hm), .ref (q 13), .ref (q 14), .ref (q 15), .ref (q 16), .int (iZ sb), .int (iZ be), .ref (q 17), .ref (q 18)])), ((q 1), .inl (G.2 0, 60, .inl (iF vv)))] (Det none [(x, .inr (11, [.ref (q 1), .ref (q 2), .int (iZ pm), .ref (q 3), .int (iZ ty), .int (iZ ap), .int (iZ fo), .int (iZ wr), .ref (q 4), .ref (q 5), .ref (q 6), .ref (q 7), .ref (q 8), .ref (q 9), .ref (q 10), .int (iZ rm), .ref (q 11), .ref (q 12), .int (iZ hm), .ref (q 13), .ref (q 14), .ref (q 15), .ref (q 16), .int (iZ sb), .int (iZ be), .ref (q 17), .ref (q 18)])), ((q 1), .inl (G.2 0, 60, .inl (iF (adF vv k p m s))))]) := by
  refine Ctr.go (own := RX12) (nm := "adds") (by decide +kernel) rfl rfl [some (.ref x), some (.int (iZ k)), some (.int (iZ p)), some (.int (iZ m)), some (.int (iZ s)), none] 1 rfl rfl (Nat.le_of_ble_eq_true rfl) ?_
  intro K h hF
  refine V_iconst h (dk dd_X12_adds_0 0 rfl) ?_
  refine V_iconst h (dk dd_X12_adds_0 1 rfl) ?_
  refine V_aload_n h (dk dd_X12_adds_0 2 rfl) rfl get0 ?_
  refine V_get h fl_X12_7 0 get0 get0 (dk dd_X12_adds_0 3 rfl) ?_
  refine V_iconst h (dk dd_X12_adds_0 4 rfl) ?_
  refine V_iald h 1 get1 (by omega) (dk dd_X12_adds_0 5 rfl) ?_
  refine V_imul h (dk dd_X12_adds_0 6 rfl) ?_
  refine V_iadd h (dk dd_X12_adds_0 7 rfl) ?_
  refine V_istore h (dk dd_X12_adds_0 8 rfl) (Nat.le_of_ble_eq_true rfl) rfl set5 ?_
  refine V_aload_n h (dk dd_X12_adds_0 9 rfl) rfl get0 ?_
  refine V_get h fl_X12_7 0 get0 get0 (dk dd_X12_adds_0 10 rfl) ?_
  refine V_iload h (dk dd_X12_adds_0 11 rfl) get5 ?_
  refine V_iload_n h (dk dd_X12_adds_0 12 rfl) rfl get1 ?_
  refine V_iast h 1 get1 (by omega) set1 (dk dd_X12_adds_0 13 rfl) ?_
  refine V_aload_n h (dk dd_X12_adds_0 14 rfl) rfl get0 ?_
  refine V_get h fl_X12_7 0 get0 get0 (dk dd_X12_adds_0 15 rfl) ?_
  refine V_iload h (dk dd_X12_adds_0 16 rfl) get5 ?_
  refine V_iconst h (dk dd_X12_adds_0 17 rfl) ?_
  refine V_iadd h (dk dd_X12_adds_0 18 rfl) ?_
  refine V_iload_n h (dk dd_X12_adds_0 19 rfl) rfl get2 ?_
  refine V_iast h 1 get1 (by omega) set1 (dk dd_X12_adds_0 20 rfl) ?_
  refine V_aload_n h (dk dd_X12_adds_0 21 rfl) rfl get0 ?_
  refine V_get h fl_X12_7 0 get0 get0 (dk dd_X12_adds_0 22 rfl) ?_
  refine V_iload h (dk dd_X12_adds_0 23 rfl) get5 ?_
  refine V_iconst h (dk dd_X12_adds_0 24 rfl) ?_
  refine V_iadd h (dk dd_X12_adds_0 25 rfl) ?_
  refine V_iload_n h (dk dd_X12_adds_0 26 rfl) rfl get3 ?_
  refine V_iast h 1 get1 (by omega) set1 (dk dd_X12_adds_0 27 rfl) ?_
  refine V_aload_n h (dk dd_X12_adds_0 28 rfl) rfl get0 ?_
  refine V_get h fl_X12_7 0 get0 get0 (dk dd_X12_adds_0 29 rfl) ?_
  refine V_iload h (dk dd_X12_adds_0 30 rfl) get5 ?_
  refine V_iconst h (dk dd_X12_adds_0 31 rfl) ?_
  refine V_iadd h (dk dd_X12_adds_0 32 rfl) ?_
  refine V_iload h (dk dd_X12_adds_0 33 rfl) get4 ?_
  refine V_iast h 1 get1 (by omega) set1 (dk dd_X12_adds_0 34 rfl) ?_
  refine V_aload_n h (dk dd_X12_adds_0 35 rfl) rfl get0 ?_
  refine V_get h fl_X12_7 0 get0 get0 (dk dd_X12_adds_0 36 rfl) ?_
  refine V_iconst h (dk dd_X12_adds_0 37 rfl) ?_
  refine V_dup2 h (dk dd_X12_adds_0 38 rfl) rfl rfl ?_
  refine V_iald h 1 get1 (by omega) (dk dd_X12_adds_0 39 rfl) ?_
  rw [zup_n (by omega), zup_n (by omega), zup_n (by omega), zup_n (by omega)]
  refine V_iconst h (dk dd_X12_adds_0 40 rfl) ?_
  refine V_iadd h (dk dd_X12_adds_0 41 rfl) ?_
  refine V_iast h 1 get1 (by omega) set1 (dk dd_X12_adds_0 42 rfl) ?_
  refine V_vret h hF (dk dd_X12_adds_0 43 rfl) ⟨Nat.le_of_ble_eq_true rfl, Nat.le_of_ble_eq_true rfl⟩ ?_
  exact det_v rfl

set_option maxHeartbeats 4000000 in
set_option maxRecDepth 100000 in
theorem m_X12_isPart (l : Launch) (G : GT) (x : Nat) (q : Nat → Nat) (pm ty ap fo wr rm hm sb be : Int) (vv : Int → Int) (k : Int) (hv : 0 ≤ vv 0 ∧ vv 0 ≤ 12) (hk : R32 k) : Ctr l G yX12_isPart cX12_isPart 2 (Option.some FieldType.boolean) (rmO 1 0 0 22) [.ref x, .int (iZ k)] [(x, .inr (11, [.ref (q 1), .ref (q 2), .int (iZ pm), .ref (q 3), .int (iZ ty), .int (iZ ap), .int (iZ fo), .int (iZ wr), .ref (q 4), .ref (q 5), .ref (q 6), .ref (q 7), .ref (q 8), .ref (q 9), .ref (q 10), .int (iZ rm), .ref (q 11), .ref (q 12), .int (iZ hm), .ref (q 13), .ref (q 14), .ref (q 15), .ref (q 16), .int (iZ sb), .int (iZ be), .ref (q 17), .ref (q 18)])), ((q 1), .inl (G.2 0, 60, .inl (iF vv)))] (Det (some (.int (iZ (bZ (0 ≤ k ∧ k < vv 0))))) [(x, .inr (11, [.ref (q 1), .ref (q 2), .int (iZ pm), .ref (q 3), .int (iZ ty), .int (iZ ap), .int (iZ fo), .int (iZ wr), .ref (q 4), .ref (q 5), .ref (q 6), .ref (q 7), .ref (q 8), .ref (q 9), .ref (q 10), .int (iZ rm), .ref (q 11), .ref (q 12), .int (iZ hm), .ref (q 13), .ref (q 14), .ref (q 15), .ref (q 16), .int (iZ sb), .int (iZ be), .ref (q 17), .ref (q 18)])), ((q 1), .inl (G.2 0, 60, .inl (iF vv)))]) := by
  refine Ctr.go (own := RX12) (nm := "isPart") (by decide +kernel) rfl rfl [some (.ref x), some (.int (iZ k))] 0 rfl rfl (Nat.le_of_ble_eq_true rfl) ?_
  intro K h hF
  refine V_iload_n h (dk dd_X12_isPart_0 0 rfl) rfl get1 ?_
  refine V_iconst h (dk dd_X12_isPart_0 1 rfl) ?_
  refine V_aload_n h (dk dd_X12_isPart_0 2 rfl) rfl get0 ?_
  refine V_get h fl_X12_7 0 get0 get0 (dk dd_X12_isPart_0 3 rfl) ?_
  refine V_iconst h (dk dd_X12_isPart_0 4 rfl) ?_
  refine V_iald h 1 get1 (by omega) (dk dd_X12_isPart_0 5 rfl) ?_
  refine V_iconst h (dk dd_X12_isPart_0 6 rfl) ?_
  refine V_isub h (dk dd_X12_isPart_0 7 rfl) ?_
  refine V_callS h st3 ci_X12_70 pk_n rfl (m_X12_in l G _ _ _ (by omega) (by omega) (by omega)) rfl rfl (Nat.le_of_ble_eq_true rfl) (by decide) ⟨rfl, rfl, rfl⟩ (dk dd_X12_isPart_0 8 rfl) sk1 sm_n ?_
  refine V_zret h hF (dk dd_X12_isPart_0 9 rfl) ⟨Nat.le_of_ble_eq_true rfl, Nat.le_of_ble_eq_true rfl⟩ (bZ_01) ?_
  exact det_i (bZ_iff (by omega)) rfl

