/-! Text -/
set_option maxHeartbeats 4000000 in
set_option maxRecDepth 100000 in
theorem m_X9_isDigit (l : Launch) (G : GT) (x : Int) (hx : R32 x) : Ctr l G yX9_isDigit cX9_isDigit 1 (Option.some FieldType.boolean) (rmO 0 0 0 0) [.int (iZ x)] [] (Det (some (.int (iZ (bZ (48 ≤ x ∧ x ≤ 57))))) []) := by
  refine Ctr.go (own := RX9) (nm := "isDigit") (by decide +kernel) rfl rfl [some (.int (iZ x))] 0 rfl rfl (Nat.le_of_ble_eq_true rfl) ?_
  intro K h hF
  refine V_iload_n h (dk dd_X9_isDigit_0 0 rfl) rfl get0 ?_
  refine V_bipush h (dk dd_X9_isDigit_0 1 rfl) (by decide) ?_
  refine V_icmp_lt (tgt := 16) h (dk dd_X9_isDigit_0 2 rfl) rfl (by omega) (fun c3 => ?_) (fun c3 => ?_)
  · refine V_iconst h (dk dd_X9_isDigit_0 8 rfl) ?_
    refine V_zret h hF (dk dd_X9_isDigit_0 9 rfl) ⟨Nat.le_of_ble_eq_true rfl, Nat.le_of_ble_eq_true rfl⟩ (by first | exact Or.inr rfl | exact Or.inl rfl | exact bZ_01 | omega) ?_
    exact det_i (by first | exact (bZ_t (by omega)).symm | exact (bZ_f (by omega)).symm | rfl) rfl
  · refine V_iload_n h (dk dd_X9_isDigit_0 3 rfl) rfl get0 ?_
    refine V_bipush h (dk dd_X9_isDigit_0 4 rfl) (by decide) ?_
    refine V_icmp_gt (tgt := 16) h (dk dd_X9_isDigit_0 5 rfl) rfl (by omega) (fun c9 => ?_) (fun c9 => ?_)
    · refine V_iconst h (dk dd_X9_isDigit_0 8 rfl) ?_
      refine V_zret h hF (dk dd_X9_isDigit_0 9 rfl) ⟨Nat.le_of_ble_eq_true rfl, Nat.le_of_ble_eq_true rfl⟩ (by first | exact Or.inr rfl | exact Or.inl rfl | exact bZ_01 | omega) ?_
      exact det_i (by first | exact (bZ_t (by omega)).symm | exact (bZ_f (by omega)).symm | rfl) rfl
    · refine V_iconst h (dk dd_X9_isDigit_0 6 rfl) ?_
      refine V_goto (tgt := 17) h (dk dd_X9_isDigit_0 7 rfl) rfl ?_
      refine V_zret h hF (dk dd_X9_isDigit_0 9 rfl) ⟨Nat.le_of_ble_eq_true rfl, Nat.le_of_ble_eq_true rfl⟩ (by first | exact Or.inr rfl | exact Or.inl rfl | exact bZ_01 | omega) ?_
      exact det_i (by first | exact (bZ_t (by omega)).symm | exact (bZ_f (by omega)).symm | rfl) rfl

set_option maxHeartbeats 4000000 in
set_option maxRecDepth 100000 in
theorem m_X9_append (l : Launch) (G : GT) (t sg fo : Nat) (ln a b o : Int) (ch : Int → Int) (x : Int) (hl : 0 ≤ ln ∧ ln < 60) (hx : 0 ≤ x ∧ x < 65536) : Ctr l G yX9_append cX9_append 2 none (rmO 0 0 0 0) [.ref t, .int (iZ x)] [(t, .inr (8, [.ref sg, .ref fo, .int (iZ ln), .int (iZ a), .int (iZ b), .int (iZ o)])), (sg, .inl (G.2 3, 60, .inl (iF ch)))] (Det none [(t, .inr (8, [.ref sg, .ref fo, .int (iZ (ln + 1)), .int (iZ a), .int (iZ b), .int (iZ o)])), (sg, .inl (G.2 3, 60, .inl (iF (zup ch ln x))))]) := by
  refine Ctr.go (own := RX9) (nm := "append") (by decide +kernel) rfl rfl [some (.ref t), some (.int (iZ x))] 0 rfl rfl (Nat.le_of_ble_eq_true rfl) ?_
  intro K h hF
  refine V_aload_n h (dk dd_X9_append_0 0 rfl) rfl get0 ?_
  refine V_get h fl_X9_22 0 get0 get2 (dk dd_X9_append_0 1 rfl) ?_
  refine V_bipush h (dk dd_X9_append_0 2 rfl) (by decide) ?_
  refine V_icmp_ge (tgt := 29) h (dk dd_X9_append_0 3 rfl) rfl (by omega) (fun c6 => ?_) (fun c6 => ?_)
  · exfalso; omega
  · refine V_aload_n h (dk dd_X9_append_0 4 rfl) rfl get0 ?_
    refine V_get h fl_X9_9 0 get0 get0 (dk dd_X9_append_0 5 rfl) ?_
    refine V_aload_n h (dk dd_X9_append_0 6 rfl) rfl get0 ?_
    refine V_get h fl_X9_22 0 get0 get2 (dk dd_X9_append_0 7 rfl) ?_
    refine V_iload_n h (dk dd_X9_append_0 8 rfl) rfl get1 ?_
    refine V_cast h 1 get1 (by omega) (by omega) set1 (dk dd_X9_append_0 9 rfl) ?_
    refine V_aload_n h (dk dd_X9_append_0 10 rfl) rfl get0 ?_
    refine V_dup h (dk dd_X9_append_0 11 rfl) rfl ?_
    refine V_get h fl_X9_22 0 get0 get2 (dk dd_X9_append_0 12 rfl) ?_
    refine V_iconst h (dk dd_X9_append_0 13 rfl) ?_
    refine V_iadd h (dk dd_X9_append_0 14 rfl) ?_
    refine V_put h pf_X9_22 0 get0 (Nat.le_of_ble_eq_true rfl) set2 set0 rfl rfl (dk dd_X9_append_0 15 rfl) ?_
    refine V_vret h hF (dk dd_X9_append_0 16 rfl) ⟨Nat.le_of_ble_eq_true rfl, Nat.le_of_ble_eq_true rfl⟩ ?_
    exact det_v rfl

set_option maxHeartbeats 4000000 in
set_option maxRecDepth 100000 in
theorem m_X9_signAt (l : Launch) (G : GT) (t sg fo : Nat) (ln a b o : Int) (ch : Int → Int) (x : Int) (hc : ChOK ch ln) (hx : R32 x) : Ctr l G yX9_signAt cX9_signAt 2 (Option.some FieldType.char) (rmO 0 0 0 0) [.ref t, .int (iZ x)] [(t, .inr (8, [.ref sg, .ref fo, .int (iZ ln), .int (iZ a), .int (iZ b), .int (iZ o)])), (sg, .inl (G.2 3, 60, .inl (iF ch)))] (Det (some (.int (iZ (sgF ch ln x)))) [(t, .inr (8, [.ref sg, .ref fo, .int (iZ ln), .int (iZ a), .int (iZ b), .int (iZ o)])), (sg, .inl (G.2 3, 60, .inl (iF ch)))]) := by
  refine Ctr.go (own := RX9) (nm := "signAt") (by decide +kernel) rfl rfl [some (.ref t), some (.int (iZ x))] 0 rfl rfl (Nat.le_of_ble_eq_true rfl) ?_
  intro K h hF
  have hc1 := hc.1
  refine V_iload_n h (dk dd_X9_signAt_0 0 rfl) rfl get1 ?_
  refine V_if_lt (tgt := 21) h (dk dd_X9_signAt_0 1 rfl) rfl (by omega) (fun c1 => ?_) (fun c1 => ?_)
  · refine V_iconst h (dk dd_X9_signAt_0 11 rfl) ?_
    refine V_cret h hF (dk dd_X9_signAt_0 12 rfl) ⟨Nat.le_of_ble_eq_true rfl, Nat.le_of_ble_eq_true rfl⟩ (nar_c (by omega)) ?_
    exact det_i (by unfold sgF; split <;> first | rfl | omega) rfl
  · refine V_iload_n h (dk dd_X9_signAt_0 2 rfl) rfl get1 ?_
    refine V_aload_n h (dk dd_X9_signAt_0 3 rfl) rfl get0 ?_
    refine V_get h fl_X9_22 0 get0 get2 (dk dd_X9_signAt_0 4 rfl) ?_
    refine V_icmp_ge (tgt := 21) h (dk dd_X9_signAt_0 5 rfl) rfl (by omega) (fun c9 => ?_) (fun c9 => ?_)
    · refine V_iconst h (dk dd_X9_signAt_0 11 rfl) ?_
      refine V_cret h hF (dk dd_X9_signAt_0 12 rfl) ⟨Nat.le_of_ble_eq_true rfl, Nat.le_of_ble_eq_true rfl⟩ (nar_c (by omega)) ?_
      exact det_i (by unfold sgF; split <;> first | rfl | omega) rfl
    · refine V_aload_n h (dk dd_X9_signAt_0 6 rfl) rfl get0 ?_
      refine V_get h fl_X9_9 0 get0 get0 (dk dd_X9_signAt_0 7 rfl) ?_
      refine V_iload_n h (dk dd_X9_signAt_0 8 rfl) rfl get1 ?_
      have hq := hc.2 x (by omega) (by omega)
      refine V_cald h 1 get1 (by omega) (dk dd_X9_signAt_0 9 rfl) ?_
      refine V_goto (tgt := 22) h (dk dd_X9_signAt_0 10 rfl) rfl ?_
      refine V_cret h hF (dk dd_X9_signAt_0 12 rfl) ⟨Nat.le_of_ble_eq_true rfl, Nat.le_of_ble_eq_true rfl⟩ (nar_c (by omega)) ?_
      exact det_i (by unfold sgF; split <;> first | rfl | omega) rfl

set_option maxHeartbeats 4000000 in
set_option maxRecDepth 100000 in
theorem m_X9_take (l : Launch) (G : GT) (t sg fo : Nat) (ln a b o : Int) (ch : Int → Int) (x : Int) (hc : ChOK ch ln) (hx : 0 ≤ x ∧ x < 65536) (hI : TI ln (a, b, o)) : Ctr l G yX9_take cX9_take 2 none (rmO 1 0 0 21) [.ref t, .int (iZ x)] [(t, .inr (8, [.ref sg, .ref fo, .int (iZ ln), .int (iZ a), .int (iZ b), .int (iZ o)])), (sg, .inl (G.2 3, 60, .inl (iF ch)))] (Det none [(t, .inr (8, [.ref sg, .ref fo, .int (iZ ln), .int (iZ (tkF ch ln x (a, b, o)).1), .int (iZ (tkF ch ln x (a, b, o)).2.1), .int (iZ (tkF ch ln x (a, b, o)).2.2)])), (sg, .inl (G.2 3, 60, .inl (iF ch)))]) := by
  refine Ctr.go (own := RX9) (nm := "take") (by decide +kernel) rfl rfl [some (.ref t), some (.int (iZ x))] 0 rfl rfl (Nat.le_of_ble_eq_true rfl) ?_
  intro K h hF
  have h1 := hI.1
  have h2 := hI.2.1
  dsimp only at h1 h2
  have hg := sg_R hc a
  have hc1 := hc.1
  refine V_aload_n h (dk dd_X9_take_0 0 rfl) rfl get0 ?_
  refine V_get h fl_X9_32 0 get0 get4 (dk dd_X9_take_0 1 rfl) ?_
  refine V_if_eq (tgt := 8) h (dk dd_X9_take_0 2 rfl) rfl (by omega) (fun c4 => ?_) (fun c4 => ?_)
  · refine V_aload_n h (dk dd_X9_take_0 4 rfl) rfl get0 ?_
    refine V_aload_n h (dk dd_X9_take_0 5 rfl) rfl get0 ?_
    refine V_get h fl_X9_29 0 get0 get3 (dk dd_X9_take_0 6 rfl) ?_
    refine V_callV h st2 ci_X9_72 (pk_c get0 (pk_c get1 pk_n)) rfl 0 get0 rfl (m_X9_signAt l G _ _ _ _ _ _ _ _ _ (by omega) (by omega)) rfl rfl (Nat.le_of_ble_eq_true rfl) (by decide) ⟨rfl, rfl, rfl⟩ (dk dd_X9_take_0 7 rfl) sk1 (sm_c set0 (sm_c set1 sm_n)) ?_
    refine V_iload_n h (dk dd_X9_take_0 8 rfl) rfl get1 ?_
    refine V_icmp_ne (tgt := 33) h (dk dd_X9_take_0 9 rfl) rfl (by omega) (fun c17 => ?_) (fun c17 => ?_)
    · refine V_aload_n h (dk dd_X9_take_0 17 rfl) rfl get0 ?_
      refine V_iconst h (dk dd_X9_take_0 18 rfl) ?_
      refine V_put h pf_X9_32 0 get0 (Nat.le_of_ble_eq_true rfl) set4 set0 (Z01.n (by decide)) (Z01.f (by decide)) (dk dd_X9_take_0 19 rfl) ?_
      refine V_vret h hF (dk dd_X9_take_0 20 rfl) ⟨Nat.le_of_ble_eq_true rfl, Nat.le_of_ble_eq_true rfl⟩ ?_
      first | exact det_v (by rw [tk_c c4]) | exact det_v (by rw [tk_a c4 c17]) | exact det_v (by rw [tk_b c4 c17])
    · refine V_aload_n h (dk dd_X9_take_0 10 rfl) rfl get0 ?_
      refine V_dup h (dk dd_X9_take_0 11 rfl) rfl ?_
      refine V_get h fl_X9_29 0 get0 get3 (dk dd_X9_take_0 12 rfl) ?_
      refine V_iconst h (dk dd_X9_take_0 13 rfl) ?_
      refine V_iadd h (dk dd_X9_take_0 14 rfl) ?_
      refine V_put h pf_X9_29 0 get0 (Nat.le_of_ble_eq_true rfl) set3 set0 rfl rfl (dk dd_X9_take_0 15 rfl) ?_
      refine V_goto (tgt := 38) h (dk dd_X9_take_0 16 rfl) rfl ?_
      refine V_vret h hF (dk dd_X9_take_0 20 rfl) ⟨Nat.le_of_ble_eq_true rfl, Nat.le_of_ble_eq_true rfl⟩ ?_
      first | exact det_v (by rw [tk_c c4]) | exact det_v (by rw [tk_a c4 c17]) | exact det_v (by rw [tk_b c4 c17])
  · refine V_vret h hF (dk dd_X9_take_0 3 rfl) ⟨Nat.le_of_ble_eq_true rfl, Nat.le_of_ble_eq_true rfl⟩ ?_
    first | exact det_v (by rw [tk_c c4]) | exact det_v (by rw [tk_a c4 c17]) | exact det_v (by rw [tk_b c4 c17])

set_option maxHeartbeats 4000000 in
set_option maxRecDepth 100000 in
theorem m_X9_sameSigns (l : Launch) (G : GT) (ad : AdT) (t sg fo : Nat) (ln a b o : Int) (ch : Int → Int) (k : Int) (hc : ChOK ch ln) (hk : 0 ≤ k ∧ k < 5) (hI : TI ln (a, b, o)) : CtrS l G ad yX9_sameSigns cX9_sameSigns 3 (Option.some FieldType.int) (rmO 5 0 0 106) [.ref t, .ref (ad.1 k.toNat)] [(t, .inr (8, [.ref sg, .ref fo, .int (iZ ln), .int (iZ a), .int (iZ b), .int (iZ o)])), (sg, .inl (G.2 3, 60, .inl (iF ch)))] (Det (some (.int (iZ (sameF ch ln a k)))) [(t, .inr (8, [.ref sg, .ref fo, .int (iZ ln), .int (iZ a), .int (iZ b), .int (iZ o)])), (sg, .inl (G.2 3, 60, .inl (iF ch)))]) := by
  refine CtrS.go (own := RX9) (nm := "sameSigns") (by decide +kernel) rfl rfl [some (.ref t), some (.ref (ad.1 k.toNat)), none] 1 rfl rfl (Nat.le_of_ble_eq_true rfl) ?_
  intro K h hF hSt
  have h1 := hI.1
  dsimp only at h1
  have hl := sL_R k
  have hc1 := hc.1
  refine V_iconst h (dk dd_X9_sameSigns_0 0 rfl) ?_
  refine V_istore_n h (dk dd_X9_sameSigns_0 1 rfl) rfl (Nat.le_of_ble_eq_true rfl) rfl set2 ?_
  have L2 : ∀ (fu : Nat) (j : Int), 0 ≤ j ∧ j ≤ sL k ∧ sameF ch ln a k = sameJ ch ln a k (6 - j).toNat j → (6 - j).toNat < fu → V K (0, 0) 2 [some (.ref t), some (.ref (ad.1 k.toNat)), some (.int (iZ j))] [] [(t, .inr (8, [.ref sg, .ref fo, .int (iZ ln), .int (iZ a), .int (iZ b), .int (iZ o)])), (sg, .inl (G.2 3, 60, .inl (iF ch)))] := by
    intro fu
    induction fu with
    | zero => intro j _ hm; exact absurd hm (Nat.not_lt_zero _)
    | succ fu ih2 =>
      intro j hI2 hm2
      refine V_iload_n h (dk dd_X9_sameSigns_0 2 rfl) rfl get2 ?_
      refine V_aload_n h (dk dd_X9_sameSigns_0 3 rfl) rfl get1 ?_
      refine V_callVt h hSt (k.toNat) (by omega) st1 ci_X9_84 rfl (m_J0_length_8abf5 l G ad _ (hk)) rfl rfl (Nat.le_of_ble_eq_true rfl) (by decide) ⟨rfl, rfl, rfl⟩ (dk dd_X9_sameSigns_0 4 rfl) sk1 ?_
      refine V_icmp_ge (tgt := 34) h (dk dd_X9_sameSigns_0 5 rfl) rfl (by omega) (fun c7 => ?_) (fun c7 => ?_)
      · refine V_iload_n h (dk dd_X9_sameSigns_0 18 rfl) rfl get2 ?_
        refine V_iret h hF (dk dd_X9_sameSigns_0 19 rfl) ⟨Nat.le_of_ble_eq_true rfl, Nat.le_of_ble_eq_true rfl⟩ ?_
        exact det_i (by rw [hI2.2.2, show (6 - j).toNat = (5 - j).toNat + 1 by omega, same_x _ (fun q => absurd q.1 (by omega))]) rfl
      · have hs := sCh_R hk ⟨hI2.1, c7⟩
        have hg := sg_R hc (a + j)
        refine V_aload_n h (dk dd_X9_sameSigns_0 6 rfl) rfl get0 ?_
        refine V_aload_n h (dk dd_X9_sameSigns_0 7 rfl) rfl get0 ?_
        refine V_get h fl_X9_29 0 get0 get3 (dk dd_X9_sameSigns_0 8 rfl) ?_
        refine V_iload_n h (dk dd_X9_sameSigns_0 9 rfl) rfl get2 ?_
        refine V_iadd h (dk dd_X9_sameSigns_0 10 rfl) ?_
        refine V_callV h st2 ci_X9_72 (pk_c get0 (pk_c get1 pk_n)) rfl 0 get0 rfl (m_X9_signAt l G _ _ _ _ _ _ _ _ _ (by omega) (by omega)) rfl rfl (Nat.le_of_ble_eq_true rfl) (by decide) ⟨rfl, rfl, rfl⟩ (dk dd_X9_sameSigns_0 11 rfl) sk1 (sm_c set0 (sm_c set1 sm_n)) ?_
        refine V_aload_n h (dk dd_X9_sameSigns_0 12 rfl) rfl get1 ?_
        refine V_iload_n h (dk dd_X9_sameSigns_0 13 rfl) rfl get2 ?_
        refine V_callVt h hSt (k.toNat) (by omega) st2 ci_X9_94 rfl (m_J0_charAt_5068e l G ad _ _ (hk) (by omega)) rfl rfl (Nat.le_of_ble_eq_true rfl) (by decide) ⟨rfl, rfl, rfl⟩ (dk dd_X9_sameSigns_0 14 rfl) sk1 ?_
        refine V_icmp_ne (tgt := 34) h (dk dd_X9_sameSigns_0 15 rfl) rfl (by omega) (fun c25 => ?_) (fun c25 => ?_)
        · refine V_iload_n h (dk dd_X9_sameSigns_0 18 rfl) rfl get2 ?_
          refine V_iret h hF (dk dd_X9_sameSigns_0 19 rfl) ⟨Nat.le_of_ble_eq_true rfl, Nat.le_of_ble_eq_true rfl⟩ ?_
          exact det_i (by rw [hI2.2.2, show (6 - j).toNat = (5 - j).toNat + 1 by omega, same_x _ (fun q => c25 q.2)]) rfl
        · refine V_iinc h (dk dd_X9_sameSigns_0 16 rfl) get2 (Nat.le_of_ble_eq_true rfl) rfl set2 ?_
          refine V_goto (tgt := 2) h (dk dd_X9_sameSigns_0 17 rfl) rfl ?_
          exact ih2 _ (⟨by omega, by omega, by rw [hI2.2.2, show (6 - j).toNat = (6 - (j + 1)).toNat + 1 by omega, same_e _ ⟨c7, c25⟩]⟩) (by omega)
  exact L2 _ _ (⟨by omega, by omega, rfl⟩) (Nat.lt_succ_self _)

set_option maxHeartbeats 4000000 in
set_option maxRecDepth 100000 in
theorem m_X9_takeWord (l : Launch) (G : GT) (ad : AdT) (t sg fo : Nat) (ln a b o : Int) (ch : Int → Int) (hc : ChOK ch ln) (hI : TI ln (a, b, o)) : CtrS l G ad yX9_takeWord cX9_takeWord 5 (Option.some FieldType.int) (rmO 6 0 0 128) [.ref t] [(t, .inr (8, [.ref sg, .ref fo, .int (iZ ln), .int (iZ a), .int (iZ b), .int (iZ o)])), (sg, .inl (G.2 3, 60, .inl (iF ch)))] (Det (some (.int (iZ (twF ch ln (a, b, o)).1))) [(t, .inr (8, [.ref sg, .ref fo, .int (iZ ln), .int (iZ (twF ch ln (a, b, o)).2.1), .int (iZ (twF ch ln (a, b, o)).2.2.1), .int (iZ (twF ch ln (a, b, o)).2.2.2)])), (sg, .inl (G.2 3, 60, .inl (iF ch)))]) := by
  refine CtrS.go (own := RX9) (nm := "takeWord") (by decide +kernel) rfl rfl [some (.ref t), none, none, none, none] 4 rfl rfl (Nat.le_of_ble_eq_true rfl) ?_
  intro K h hF hSt
  have h1 := hI.1
  have h2 := hI.2.1
  dsimp only at h1 h2
  have hc1 := hc.1
  refine V_aload_n h (dk dd_X9_takeWord_0 0 rfl) rfl get0 ?_
  refine V_get h fl_X9_32 0 get0 get4 (dk dd_X9_takeWord_0 1 rfl) ?_
  refine V_if_eq (tgt := 9) h (dk dd_X9_takeWord_0 2 rfl) rfl (by omega) (fun c4 => ?_) (fun c4 => ?_)
  · refine V_iconst h (dk dd_X9_takeWord_0 5 rfl) ?_
    refine V_istore_n h (dk dd_X9_takeWord_0 6 rfl) rfl (Nat.le_of_ble_eq_true rfl) rfl set1 ?_
    refine V_iconst h (dk dd_X9_takeWord_0 7 rfl) ?_
    refine V_istore_n h (dk dd_X9_takeWord_0 8 rfl) rfl (Nat.le_of_ble_eq_true rfl) rfl set2 ?_
    have L13 : ∀ (fu : Nat) (g k : Int), 0 ≤ k ∧ k ≤ 5 ∧ g = lgM ch ln a k.toNat ∧ twK ch ln a = twJ ch ln a (5 - k).toNat k → (5 - k).toNat < fu → V K (0, 0) 13 [some (.ref t), some (.int (iZ g)), some (.int (iZ k)), none, none] [] [(t, .inr (8, [.ref sg, .ref fo, .int (iZ ln), .int (iZ a), .int (iZ b), .int (iZ o)])), (sg, .inl (G.2 3, 60, .inl (iF ch)))] := by
      intro fu
      induction fu with
      | zero => intro g k _ hm; exact absurd hm (Nat.not_lt_zero _)
      | succ fu ih13 =>
        intro g k hI13 hm13
        obtain ⟨hk0, hk1, hg, ht⟩ := hI13
        have hR := lgM_R hc h1 k.toNat (by omega)
        rw [← hg] at hR
        have hl := sL_R k
        have hs := same_R (ch := ch) (len := ln) (a := a) (k := k) 6 0 (by omega) (by omega)
        rw [show sameJ ch ln a k 6 0 = sameF ch ln a k from rfl] at hs
        refine V_iload_n h (dk dd_X9_takeWord_0 9 rfl) rfl get2 ?_
        refine V_iconst h (dk dd_X9_takeWord_0 10 rfl) ?_
        refine V_icmp_gt (tgt := 65) h (dk dd_X9_takeWord_0 11 rfl) rfl (by omega) (fun c15 => ?_) (fun c15 => ?_)
        · refine V_aload_n h (dk dd_X9_takeWord_0 37 rfl) rfl get0 ?_
          refine V_dup h (dk dd_X9_takeWord_0 38 rfl) rfl ?_
          refine V_get h fl_X9_29 0 get0 get3 (dk dd_X9_takeWord_0 39 rfl) ?_
          refine V_iload_n h (dk dd_X9_takeWord_0 40 rfl) rfl get1 ?_
          refine V_iadd h (dk dd_X9_takeWord_0 41 rfl) ?_
          refine V_put h pf_X9_29 0 get0 (Nat.le_of_ble_eq_true rfl) set3 set0 rfl rfl (dk dd_X9_takeWord_0 42 rfl) ?_
          refine V_aload_n h (dk dd_X9_takeWord_0 43 rfl) rfl get0 ?_
          refine V_iconst h (dk dd_X9_takeWord_0 44 rfl) ?_
          refine V_put h pf_X9_32 0 get0 (Nat.le_of_ble_eq_true rfl) set4 set0 (Z01.n (by decide)) (Z01.f (by decide)) (dk dd_X9_takeWord_0 45 rfl) ?_
          refine V_iconst h (dk dd_X9_takeWord_0 46 rfl) ?_
          refine V_iret h hF (dk dd_X9_takeWord_0 47 rfl) ⟨Nat.le_of_ble_eq_true rfl, Nat.le_of_ble_eq_true rfl⟩ ?_
          have e : k = 5 := by omega
          subst e
          rw [tw_a c4 (by rw [ht]; rfl), hg]
          exact ⟨rfl, rfl⟩
        · refine V_iload_n h (dk dd_X9_takeWord_0 12 rfl) rfl get2 ?_
          refine V_callSs h hSt st1 ci_X9_76 pk_n rfl (m_X4_word l G ad _ (by omega)) rfl rfl (Nat.le_of_ble_eq_true rfl) (by decide) ⟨rfl, rfl, rfl⟩ (dk dd_X9_takeWord_0 13 rfl) sk1 sm_n ?_
          refine V_astore_n h (dk dd_X9_takeWord_0 14 rfl) rfl (Nat.le_of_ble_eq_true rfl) rfl set3 ?_
          refine V_aload_n h (dk dd_X9_takeWord_0 15 rfl) rfl get0 ?_
          refine V_aload_n h (dk dd_X9_takeWord_0 16 rfl) rfl get3 ?_
          refine V_callVs h hSt st2 ci_X9_80 (pk_c get0 (pk_c get1 pk_n)) rfl 0 get0 rfl (m_X9_sameSigns l G ad _ _ _ _ _ _ _ _ _ (by omega) (by omega) (hI)) rfl rfl (Nat.le_of_ble_eq_true rfl) (by decide) ⟨rfl, rfl, rfl⟩ (dk dd_X9_takeWord_0 17 rfl) sk1 (sm_c set0 (sm_c set1 sm_n)) ?_
          refine V_istore h (dk dd_X9_takeWord_0 18 rfl) (Nat.le_of_ble_eq_true rfl) rfl set4 ?_
          refine V_iload h (dk dd_X9_takeWord_0 19 rfl) get4 ?_
          refine V_aload_n h (dk dd_X9_takeWord_0 20 rfl) rfl get3 ?_
          refine V_callVt h hSt (k.toNat) (by omega) st1 ci_X9_84 rfl (m_J0_length_8abf5 l G ad _ (⟨hk0, by omega⟩)) rfl rfl (Nat.le_of_ble_eq_true rfl) (by decide) ⟨rfl, rfl, rfl⟩ (dk dd_X9_takeWord_0 21 rfl) sk1 ?_
          refine V_icmp_ne (tgt := 52) h (dk dd_X9_takeWord_0 22 rfl) rfl (by omega) (fun c36 => ?_) (fun c36 => ?_)
          · refine V_iload_n h (dk dd_X9_takeWord_0 31 rfl) rfl get1 ?_
            refine V_iload h (dk dd_X9_takeWord_0 32 rfl) get4 ?_
            refine V_callS h st2 ci_X9_88 pk_n rfl (m_J9_max_7cf53 l G _ _ (by omega) (by omega)) rfl rfl (Nat.le_of_ble_eq_true rfl) (by decide) ⟨rfl, rfl, rfl⟩ (dk dd_X9_takeWord_0 33 rfl) sk1 sm_n ?_
            refine V_istore_n h (dk dd_X9_takeWord_0 34 rfl) rfl (Nat.le_of_ble_eq_true rfl) rfl set1 ?_
            refine V_iinc h (dk dd_X9_takeWord_0 35 rfl) get2 (Nat.le_of_ble_eq_true rfl) rfl set2 ?_
            refine V_goto (tgt := 13) h (dk dd_X9_takeWord_0 36 rfl) rfl ?_
            refine V_wk (lw_s (lw_s (lw_s (lw_o (lw_o lw_n))))) ?_
            exact ih13 _ _ (⟨by omega, by omega, by rw [lgM_s hk0, ← hg], by rw [ht, show (5 - k).toNat = (5 - (k + 1)).toNat + 1 by omega, twJ_x _ c36]⟩) (by omega)
          · refine V_aload_n h (dk dd_X9_takeWord_0 23 rfl) rfl get0 ?_
            refine V_dup h (dk dd_X9_takeWord_0 24 rfl) rfl ?_
            refine V_get h fl_X9_29 0 get0 get3 (dk dd_X9_takeWord_0 25 rfl) ?_
            refine V_iload h (dk dd_X9_takeWord_0 26 rfl) get4 ?_
            refine V_iadd h (dk dd_X9_takeWord_0 27 rfl) ?_
            refine V_put h pf_X9_29 0 get0 (Nat.le_of_ble_eq_true rfl) set3 set0 rfl rfl (dk dd_X9_takeWord_0 28 rfl) ?_
            refine V_iload_n h (dk dd_X9_takeWord_0 29 rfl) rfl get2 ?_
            refine V_iret h hF (dk dd_X9_takeWord_0 30 rfl) ⟨Nat.le_of_ble_eq_true rfl, Nat.le_of_ble_eq_true rfl⟩ ?_
            have e : twK ch ln a = k := by rw [ht, show (5 - k).toNat = (4 - k).toNat + 1 by omega, twJ_e _ c36]
            rw [tw_b c4 (by rw [e]; omega), e, c36]
            exact ⟨rfl, rfl⟩
    exact L13 _ _ _ (⟨by omega, by omega, rfl, rfl⟩) (Nat.lt_succ_self _)
  · refine V_iconst h (dk dd_X9_takeWord_0 3 rfl) ?_
    refine V_iret h hF (dk dd_X9_takeWord_0 4 rfl) ⟨Nat.le_of_ble_eq_true rfl, Nat.le_of_ble_eq_true rfl⟩ ?_
    rw [tw_c c4]
    exact ⟨rfl, rfl⟩

set_option maxHeartbeats 4000000 in
set_option maxRecDepth 100000 in
theorem m_X9_takeNumber (l : Launch) (G : GT) (t sg fo : Nat) (ln a b o : Int) (ch : Int → Int) (lo hi neg : Int) (hc : ChOK ch ln) (hI : TI ln (a, b, o)) (hlo : R32 lo) (hhi : R32 hi) (hneg : Z01 neg) : Ctr l G yX9_takeNumber cX9_takeNumber 7 (Option.some FieldType.int) (rmO 1 0 0 21) [.ref t, .int (iZ lo), .int (iZ hi), .int (iZ neg)] [(t, .inr (8, [.ref sg, .ref fo, .int (iZ ln), .int (iZ a), .int (iZ b), .int (iZ o)])), (sg, .inl (G.2 3, 60, .inl (iF ch)))] (Det (some (.int (iZ (tnF ch ln lo hi neg (a, b, o)).1))) [(t, .inr (8, [.ref sg, .ref fo, .int (iZ ln), .int (iZ (tnF ch ln lo hi neg (a, b, o)).2.1), .int (iZ (tnF ch ln lo hi neg (a, b, o)).2.2.1), .int (iZ (tnF ch ln lo hi neg (a, b, o)).2.2.2)])), (sg, .inl (G.2 3, 60, .inl (iF ch)))]) := by
  refine Ctr.go (own := RX9) (nm := "takeNumber") (by decide +kernel) rfl rfl [some (.ref t), some (.int (iZ lo)), some (.int (iZ hi)), some (.int (iZ neg)), none, none, none] 3 rfl rfl (Nat.le_of_ble_eq_true rfl) ?_
  intro K h hF
  have h1 := hI.1
  have h2 := hI.2.1
  have h3 := hI.2.2
  dsimp only at h1 h2 h3
  have hc1 := hc.1
  have hga := sg_R hc a
  refine V_aload_n h (dk dd_X9_takeNumber_0 0 rfl) rfl get0 ?_
  refine V_get h fl_X9_32 0 get0 get4 (dk dd_X9_takeNumber_0 1 rfl) ?_
  refine V_if_eq (tgt := 9) h (dk dd_X9_takeNumber_0 2 rfl) rfl (by omega) (fun c4 => ?_) (fun c4 => ?_)
  · have J33 : ∀ (g : Int), g = ngF ch ln neg a → V K (0, 0) 33 [some (.ref t), some (.int (iZ lo)), some (.int (iZ hi)), some (.int (iZ neg)), some (.int (iZ g)), none, none] [] [(t, .inr (8, [.ref sg, .ref fo, .int (iZ ln), .int (iZ a), .int (iZ b), .int (iZ o)])), (sg, .inl (G.2 3, 60, .inl (iF ch)))] := by
      intro g hJ33
      have hg01 : g = 0 ∨ (g = 1 ∧ a < ln) := by rw [hJ33]; unfold ngF; split <;> omega
      have J48 : ∀ (s : Int), s = a + g → V K (0, 0) 48 [some (.ref t), some (.int (iZ lo)), some (.int (iZ hi)), some (.int (iZ neg)), some (.int (iZ g)), none, none] [] [(t, .inr (8, [.ref sg, .ref fo, .int (iZ ln), .int (iZ s), .int (iZ b), .int (iZ o)])), (sg, .inl (G.2 3, 60, .inl (iF ch)))] := by
        intro s hJ48
        have hd := dg_R hc 5 s 0 (by omega) (by omega) (by decide)
        simp only [show (10 : Int) ^ 5 = 100000 by decide] at hd
        refine V_aload_n h (dk dd_X9_takeNumber_0 25 rfl) rfl get0 ?_
        refine V_get h fl_X9_29 0 get0 get3 (dk dd_X9_takeNumber_0 26 rfl) ?_
        refine V_istore h (dk dd_X9_takeNumber_0 27 rfl) (Nat.le_of_ble_eq_true rfl) rfl set5 ?_
        refine V_iconst h (dk dd_X9_takeNumber_0 28 rfl) ?_
        refine V_istore h (dk dd_X9_takeNumber_0 29 rfl) (Nat.le_of_ble_eq_true rfl) rfl set6 ?_
        have L57 : ∀ (fu : Nat) (a2 x : Int), s ≤ a2 ∧ a2 ≤ s + 5 ∧ a2 ≤ ln ∧ dgJ ch ln 5 s 0 = dgJ ch ln (5 - (a2 - s)).toNat a2 x → (5 - (a2 - s)).toNat < fu → V K (0, 0) 57 [some (.ref t), some (.int (iZ lo)), some (.int (iZ hi)), some (.int (iZ neg)), some (.int (iZ g)), some (.int (iZ s)), some (.int (iZ x))] [] [(t, .inr (8, [.ref sg, .ref fo, .int (iZ ln), .int (iZ a2), .int (iZ b), .int (iZ o)])), (sg, .inl (G.2 3, 60, .inl (iF ch)))] := by
          intro fu
          induction fu with
          | zero => intro a2 x _ hm; exact absurd hm (Nat.not_lt_zero _)
          | succ fu ih57 =>
            intro a2 x hI57 hm57
            have hg2 := sg_R hc a2
            have J114 : ∀ (a2 x : Int), (a2, x) = dgJ ch ln 5 s 0 → V K (0, 0) 114 [some (.ref t), some (.int (iZ lo)), some (.int (iZ hi)), some (.int (iZ neg)), some (.int (iZ g)), some (.int (iZ s)), some (.int (iZ x))] [] [(t, .inr (8, [.ref sg, .ref fo, .int (iZ ln), .int (iZ a2), .int (iZ b), .int (iZ o)])), (sg, .inl (G.2 3, 60, .inl (iF ch)))] := by
              intro a2 x hJ114
              rw [← hJ114] at hd
              dsimp only at hd
              refine V_aload_n h (dk dd_X9_takeNumber_1 10 rfl) rfl get0 ?_
              refine V_aload_n h (dk dd_X9_takeNumber_1 11 rfl) rfl get0 ?_
              refine V_get h fl_X9_29 0 get0 get3 (dk dd_X9_takeNumber_1 12 rfl) ?_
              refine V_iload h (dk dd_X9_takeNumber_1 13 rfl) get5 ?_
              refine V_icmp_ne (tgt := 128) h (dk dd_X9_takeNumber_1 14 rfl) rfl (by omega) (fun c121 => ?_) (fun c121 => ?_)
              · refine V_iconst h (dk dd_X9_takeNumber_1 17 rfl) ?_
                refine V_put h pf_X9_32 0 get0 (Nat.le_of_ble_eq_true rfl) set4 set0 (Z01.n (by decide)) (Z01.f (by decide)) (dk dd_X9_takeNumber_1 18 rfl) ?_
                refine V_iload h (dk dd_X9_takeNumber_1 19 rfl) get4 ?_
                refine V_if_eq (tgt := 142) h (dk dd_X9_takeNumber_1 20 rfl) rfl (by omega) (fun c134 => ?_) (fun c134 => ?_)
                · refine V_aload_n h (dk dd_X9_takeNumber_1 24 rfl) rfl get0 ?_
                  refine V_get h fl_X9_36 0 get0 get5 (dk dd_X9_takeNumber_1 25 rfl) ?_
                  refine V_if_ge (tgt := 167) h (dk dd_X9_takeNumber_1 26 rfl) rfl (by omega) (fun c146 => ?_) (fun c146 => ?_)
                  · refine V_iload h (dk dd_X9_takeNumber_1 36 rfl) get6 ?_
                    refine V_iret h hF (dk dd_X9_takeNumber_1 37 rfl) ⟨Nat.le_of_ble_eq_true rfl, Nat.le_of_ble_eq_true rfl⟩ ?_
                    rw [tn_a c4, ← hJ33, ← hJ48, ← hJ114]
                    dsimp only
                    first | rw [if_pos (show g = 0 by assumption)] | rw [if_neg (show ¬ g = 0 by assumption)]
                    first | rw [if_pos (show a2 = s by assumption)] | rw [if_neg (show ¬ a2 = s by assumption)]
                    first | rw [if_neg (by omega)] | rw [if_pos (by omega)]
                    exact ⟨rfl, rfl⟩
                  · refine V_iload h (dk dd_X9_takeNumber_1 27 rfl) get6 ?_
                    refine V_iload_n h (dk dd_X9_takeNumber_1 28 rfl) rfl get1 ?_
                    refine V_icmp_lt (tgt := 161) h (dk dd_X9_takeNumber_1 29 rfl) rfl (by omega) (fun c152 => ?_) (fun c152 => ?_)
                    · refine V_aload_n h (dk dd_X9_takeNumber_1 33 rfl) rfl get0 ?_
                      refine V_iload h (dk dd_X9_takeNumber_1 34 rfl) get5 ?_
                      refine V_put h pf_X9_36 0 get0 (Nat.le_of_ble_eq_true rfl) set5 set0 rfl rfl (dk dd_X9_takeNumber_1 35 rfl) ?_
                      refine V_iload h (dk dd_X9_takeNumber_1 36 rfl) get6 ?_
                      refine V_iret h hF (dk dd_X9_takeNumber_1 37 rfl) ⟨Nat.le_of_ble_eq_true rfl, Nat.le_of_ble_eq_true rfl⟩ ?_
                      rw [tn_a c4, ← hJ33, ← hJ48, ← hJ114]
                      dsimp only
                      first | rw [if_pos (show g = 0 by assumption)] | rw [if_neg (show ¬ g = 0 by assumption)]
                      first | rw [if_pos (show a2 = s by assumption)] | rw [if_neg (show ¬ a2 = s by assumption)]
                      first | rw [if_neg (by omega)] | rw [if_pos (by omega)]
                      exact ⟨rfl, rfl⟩
                    · refine V_iload h (dk dd_X9_takeNumber_1 30 rfl) get6 ?_
                      refine V_iload_n h (dk dd_X9_takeNumber_1 31 rfl) rfl get2 ?_
                      refine V_icmp_le (tgt := 167) h (dk dd_X9_takeNumber_1 32 rfl) rfl (by omega) (fun c158 => ?_) (fun c158 => ?_)
                      · refine V_iload h (dk dd_X9_takeNumber_1 36 rfl) get6 ?_
                        refine V_iret h hF (dk dd_X9_takeNumber_1 37 rfl) ⟨Nat.le_of_ble_eq_true rfl, Nat.le_of_ble_eq_true rfl⟩ ?_
                        rw [tn_a c4, ← hJ33, ← hJ48, ← hJ114]
                        dsimp only
                        first | rw [if_pos (show g = 0 by assumption)] | rw [if_neg (show ¬ g = 0 by assumption)]
                        first | rw [if_pos (show a2 = s by assumption)] | rw [if_neg (show ¬ a2 = s by assumption)]
                        first | rw [if_neg (by omega)] | rw [if_pos (by omega)]
                        exact ⟨rfl, rfl⟩
                      · refine V_aload_n h (dk dd_X9_takeNumber_1 33 rfl) rfl get0 ?_
                        refine V_iload h (dk dd_X9_takeNumber_1 34 rfl) get5 ?_
                        refine V_put h pf_X9_36 0 get0 (Nat.le_of_ble_eq_true rfl) set5 set0 rfl rfl (dk dd_X9_takeNumber_1 35 rfl) ?_
                        refine V_iload h (dk dd_X9_takeNumber_1 36 rfl) get6 ?_
                        refine V_iret h hF (dk dd_X9_takeNumber_1 37 rfl) ⟨Nat.le_of_ble_eq_true rfl, Nat.le_of_ble_eq_true rfl⟩ ?_
                        rw [tn_a c4, ← hJ33, ← hJ48, ← hJ114]
                        dsimp only
                        first | rw [if_pos (show g = 0 by assumption)] | rw [if_neg (show ¬ g = 0 by assumption)]
                        first | rw [if_pos (show a2 = s by assumption)] | rw [if_neg (show ¬ a2 = s by assumption)]
                        first | rw [if_neg (by omega)] | rw [if_pos (by omega)]
                        exact ⟨rfl, rfl⟩
                · refine V_iload h (dk dd_X9_takeNumber_1 21 rfl) get6 ?_
                  refine V_ineg h (dk dd_X9_takeNumber_1 22 rfl) ?_
                  refine V_istore h (dk dd_X9_takeNumber_1 23 rfl) (Nat.le_of_ble_eq_true rfl) rfl set6 ?_
                  refine V_aload_n h (dk dd_X9_takeNumber_1 24 rfl) rfl get0 ?_
                  refine V_get h fl_X9_36 0 get0 get5 (dk dd_X9_takeNumber_1 25 rfl) ?_
                  refine V_if_ge (tgt := 167) h (dk dd_X9_takeNumber_1 26 rfl) rfl (by omega) (fun c146_2 => ?_) (fun c146_2 => ?_)
                  · refine V_iload h (dk dd_X9_takeNumber_1 36 rfl) get6 ?_
                    refine V_iret h hF (dk dd_X9_takeNumber_1 37 rfl) ⟨Nat.le_of_ble_eq_true rfl, Nat.le_of_ble_eq_true rfl⟩ ?_
                    rw [tn_a c4, ← hJ33, ← hJ48, ← hJ114]
                    dsimp only
                    first | rw [if_pos (show g = 0 by assumption)] | rw [if_neg (show ¬ g = 0 by assumption)]
                    first | rw [if_pos (show a2 = s by assumption)] | rw [if_neg (show ¬ a2 = s by assumption)]
                    first | rw [if_neg (by omega)] | rw [if_pos (by omega)]
                    exact ⟨rfl, rfl⟩
                  · refine V_iload h (dk dd_X9_takeNumber_1 27 rfl) get6 ?_
                    refine V_iload_n h (dk dd_X9_takeNumber_1 28 rfl) rfl get1 ?_
                    refine V_icmp_lt (tgt := 161) h (dk dd_X9_takeNumber_1 29 rfl) rfl (by omega) (fun c152_2 => ?_) (fun c152_2 => ?_)
                    · refine V_aload_n h (dk dd_X9_takeNumber_1 33 rfl) rfl get0 ?_
                      refine V_iload h (dk dd_X9_takeNumber_1 34 rfl) get5 ?_
                      refine V_put h pf_X9_36 0 get0 (Nat.le_of_ble_eq_true rfl) set5 set0 rfl rfl (dk dd_X9_takeNumber_1 35 rfl) ?_
                      refine V_iload h (dk dd_X9_takeNumber_1 36 rfl) get6 ?_
                      refine V_iret h hF (dk dd_X9_takeNumber_1 37 rfl) ⟨Nat.le_of_ble_eq_true rfl, Nat.le_of_ble_eq_true rfl⟩ ?_
                      rw [tn_a c4, ← hJ33, ← hJ48, ← hJ114]
                      dsimp only
                      first | rw [if_pos (show g = 0 by assumption)] | rw [if_neg (show ¬ g = 0 by assumption)]
                      first | rw [if_pos (show a2 = s by assumption)] | rw [if_neg (show ¬ a2 = s by assumption)]
                      first | rw [if_neg (by omega)] | rw [if_pos (by omega)]
                      exact ⟨rfl, rfl⟩
                    · refine V_iload h (dk dd_X9_takeNumber_1 30 rfl) get6 ?_
                      refine V_iload_n h (dk dd_X9_takeNumber_1 31 rfl) rfl get2 ?_
                      refine V_icmp_le (tgt := 167) h (dk dd_X9_takeNumber_1 32 rfl) rfl (by omega) (fun c158_2 => ?_) (fun c158_2 => ?_)
                      · refine V_iload h (dk dd_X9_takeNumber_1 36 rfl) get6 ?_
                        refine V_iret h hF (dk dd_X9_takeNumber_1 37 rfl) ⟨Nat.le_of_ble_eq_true rfl, Nat.le_of_ble_eq_true rfl⟩ ?_
                        rw [tn_a c4, ← hJ33, ← hJ48, ← hJ114]
                        dsimp only
                        first | rw [if_pos (show g = 0 by assumption)] | rw [if_neg (show ¬ g = 0 by assumption)]
                        first | rw [if_pos (show a2 = s by assumption)] | rw [if_neg (show ¬ a2 = s by assumption)]
                        first | rw [if_neg (by omega)] | rw [if_pos (by omega)]
                        exact ⟨rfl, rfl⟩
                      · refine V_aload_n h (dk dd_X9_takeNumber_1 33 rfl) rfl get0 ?_
                        refine V_iload h (dk dd_X9_takeNumber_1 34 rfl) get5 ?_
                        refine V_put h pf_X9_36 0 get0 (Nat.le_of_ble_eq_true rfl) set5 set0 rfl rfl (dk dd_X9_takeNumber_1 35 rfl) ?_
                        refine V_iload h (dk dd_X9_takeNumber_1 36 rfl) get6 ?_
                        refine V_iret h hF (dk dd_X9_takeNumber_1 37 rfl) ⟨Nat.le_of_ble_eq_true rfl, Nat.le_of_ble_eq_true rfl⟩ ?_
                        rw [tn_a c4, ← hJ33, ← hJ48, ← hJ114]
                        dsimp only
                        first | rw [if_pos (show g = 0 by assumption)] | rw [if_neg (show ¬ g = 0 by assumption)]
                        first | rw [if_pos (show a2 = s by assumption)] | rw [if_neg (show ¬ a2 = s by assumption)]
                        first | rw [if_neg (by omega)] | rw [if_pos (by omega)]
                        exact ⟨rfl, rfl⟩
              · refine V_iconst h (dk dd_X9_takeNumber_1 15 rfl) ?_
                refine V_goto (tgt := 129) h (dk dd_X9_takeNumber_1 16 rfl) rfl ?_
                refine V_put h pf_X9_32 0 get0 (Nat.le_of_ble_eq_true rfl) set4 set0 (Z01.n (by decide)) (Z01.f (by decide)) (dk dd_X9_takeNumber_1 18 rfl) ?_
                refine V_iload h (dk dd_X9_takeNumber_1 19 rfl) get4 ?_
                refine V_if_eq (tgt := 142) h (dk dd_X9_takeNumber_1 20 rfl) rfl (by omega) (fun c134_2 => ?_) (fun c134_2 => ?_)
                · refine V_aload_n h (dk dd_X9_takeNumber_1 24 rfl) rfl get0 ?_
                  refine V_get h fl_X9_36 0 get0 get5 (dk dd_X9_takeNumber_1 25 rfl) ?_
                  refine V_if_ge (tgt := 167) h (dk dd_X9_takeNumber_1 26 rfl) rfl (by omega) (fun c146_3 => ?_) (fun c146_3 => ?_)
                  · refine V_iload h (dk dd_X9_takeNumber_1 36 rfl) get6 ?_
                    refine V_iret h hF (dk dd_X9_takeNumber_1 37 rfl) ⟨Nat.le_of_ble_eq_true rfl, Nat.le_of_ble_eq_true rfl⟩ ?_
                    rw [tn_a c4, ← hJ33, ← hJ48, ← hJ114]
                    dsimp only
                    first | rw [if_pos (show g = 0 by assumption)] | rw [if_neg (show ¬ g = 0 by assumption)]
                    first | rw [if_pos (show a2 = s by assumption)] | rw [if_neg (show ¬ a2 = s by assumption)]
                    first | rw [if_neg (by omega)] | rw [if_pos (by omega)]
                    exact ⟨rfl, rfl⟩
                  · refine V_iload h (dk dd_X9_takeNumber_1 27 rfl) get6 ?_
                    refine V_iload_n h (dk dd_X9_takeNumber_1 28 rfl) rfl get1 ?_
                    refine V_icmp_lt (tgt := 161) h (dk dd_X9_takeNumber_1 29 rfl) rfl (by omega) (fun c152_3 => ?_) (fun c152_3 => ?_)
                    · refine V_aload_n h (dk dd_X9_takeNumber_1 33 rfl) rfl get0 ?_
                      refine V_iload h (dk dd_X9_takeNumber_1 34 rfl) get5 ?_
                      refine V_put h pf_X9_36 0 get0 (Nat.le_of_ble_eq_true rfl) set5 set0 rfl rfl (dk dd_X9_takeNumber_1 35 rfl) ?_
                      refine V_iload h (dk dd_X9_takeNumber_1 36 rfl) get6 ?_
                      refine V_iret h hF (dk dd_X9_takeNumber_1 37 rfl) ⟨Nat.le_of_ble_eq_true rfl, Nat.le_of_ble_eq_true rfl⟩ ?_
                      rw [tn_a c4, ← hJ33, ← hJ48, ← hJ114]
                      dsimp only
                      first | rw [if_pos (show g = 0 by assumption)] | rw [if_neg (show ¬ g = 0 by assumption)]
                      first | rw [if_pos (show a2 = s by assumption)] | rw [if_neg (show ¬ a2 = s by assumption)]
                      first | rw [if_neg (by omega)] | rw [if_pos (by omega)]
                      exact ⟨rfl, rfl⟩
                    · refine V_iload h (dk dd_X9_takeNumber_1 30 rfl) get6 ?_
                      refine V_iload_n h (dk dd_X9_takeNumber_1 31 rfl) rfl get2 ?_
                      refine V_icmp_le (tgt := 167) h (dk dd_X9_takeNumber_1 32 rfl) rfl (by omega) (fun c158_3 => ?_) (fun c158_3 => ?_)
                      · refine V_iload h (dk dd_X9_takeNumber_1 36 rfl) get6 ?_
                        refine V_iret h hF (dk dd_X9_takeNumber_1 37 rfl) ⟨Nat.le_of_ble_eq_true rfl, Nat.le_of_ble_eq_true rfl⟩ ?_
                        rw [tn_a c4, ← hJ33, ← hJ48, ← hJ114]
                        dsimp only
                        first | rw [if_pos (show g = 0 by assumption)] | rw [if_neg (show ¬ g = 0 by assumption)]
                        first | rw [if_pos (show a2 = s by assumption)] | rw [if_neg (show ¬ a2 = s by assumption)]
                        first | rw [if_neg (by omega)] | rw [if_pos (by omega)]
                        exact ⟨rfl, rfl⟩
                      · refine V_aload_n h (dk dd_X9_takeNumber_1 33 rfl) rfl get0 ?_
                        refine V_iload h (dk dd_X9_takeNumber_1 34 rfl) get5 ?_
                        refine V_put h pf_X9_36 0 get0 (Nat.le_of_ble_eq_true rfl) set5 set0 rfl rfl (dk dd_X9_takeNumber_1 35 rfl) ?_
                        refine V_iload h (dk dd_X9_takeNumber_1 36 rfl) get6 ?_
                        refine V_iret h hF (dk dd_X9_takeNumber_1 37 rfl) ⟨Nat.le_of_ble_eq_true rfl, Nat.le_of_ble_eq_true rfl⟩ ?_
                        rw [tn_a c4, ← hJ33, ← hJ48, ← hJ114]
                        dsimp only
                        first | rw [if_pos (show g = 0 by assumption)] | rw [if_neg (show ¬ g = 0 by assumption)]
                        first | rw [if_pos (show a2 = s by assumption)] | rw [if_neg (show ¬ a2 = s by assumption)]
                        first | rw [if_neg (by omega)] | rw [if_pos (by omega)]
                        exact ⟨rfl, rfl⟩
                · refine V_iload h (dk dd_X9_takeNumber_1 21 rfl) get6 ?_
                  refine V_ineg h (dk dd_X9_takeNumber_1 22 rfl) ?_
                  refine V_istore h (dk dd_X9_takeNumber_1 23 rfl) (Nat.le_of_ble_eq_true rfl) rfl set6 ?_
                  refine V_aload_n h (dk dd_X9_takeNumber_1 24 rfl) rfl get0 ?_
                  refine V_get h fl_X9_36 0 get0 get5 (dk dd_X9_takeNumber_1 25 rfl) ?_
                  refine V_if_ge (tgt := 167) h (dk dd_X9_takeNumber_1 26 rfl) rfl (by omega) (fun c146_4 => ?_) (fun c146_4 => ?_)
                  · refine V_iload h (dk dd_X9_takeNumber_1 36 rfl) get6 ?_
                    refine V_iret h hF (dk dd_X9_takeNumber_1 37 rfl) ⟨Nat.le_of_ble_eq_true rfl, Nat.le_of_ble_eq_true rfl⟩ ?_
                    rw [tn_a c4, ← hJ33, ← hJ48, ← hJ114]
                    dsimp only
                    first | rw [if_pos (show g = 0 by assumption)] | rw [if_neg (show ¬ g = 0 by assumption)]
                    first | rw [if_pos (show a2 = s by assumption)] | rw [if_neg (show ¬ a2 = s by assumption)]
                    first | rw [if_neg (by omega)] | rw [if_pos (by omega)]
                    exact ⟨rfl, rfl⟩
                  · refine V_iload h (dk dd_X9_takeNumber_1 27 rfl) get6 ?_
                    refine V_iload_n h (dk dd_X9_takeNumber_1 28 rfl) rfl get1 ?_
                    refine V_icmp_lt (tgt := 161) h (dk dd_X9_takeNumber_1 29 rfl) rfl (by omega) (fun c152_4 => ?_) (fun c152_4 => ?_)
                    · refine V_aload_n h (dk dd_X9_takeNumber_1 33 rfl) rfl get0 ?_
                      refine V_iload h (dk dd_X9_takeNumber_1 34 rfl) get5 ?_
                      refine V_put h pf_X9_36 0 get0 (Nat.le_of_ble_eq_true rfl) set5 set0 rfl rfl (dk dd_X9_takeNumber_1 35 rfl) ?_
                      refine V_iload h (dk dd_X9_takeNumber_1 36 rfl) get6 ?_
                      refine V_iret h hF (dk dd_X9_takeNumber_1 37 rfl) ⟨Nat.le_of_ble_eq_true rfl, Nat.le_of_ble_eq_true rfl⟩ ?_
                      rw [tn_a c4, ← hJ33, ← hJ48, ← hJ114]
                      dsimp only
                      first | rw [if_pos (show g = 0 by assumption)] | rw [if_neg (show ¬ g = 0 by assumption)]
                      first | rw [if_pos (show a2 = s by assumption)] | rw [if_neg (show ¬ a2 = s by assumption)]
                      first | rw [if_neg (by omega)] | rw [if_pos (by omega)]
                      exact ⟨rfl, rfl⟩
                    · refine V_iload h (dk dd_X9_takeNumber_1 30 rfl) get6 ?_
                      refine V_iload_n h (dk dd_X9_takeNumber_1 31 rfl) rfl get2 ?_
                      refine V_icmp_le (tgt := 167) h (dk dd_X9_takeNumber_1 32 rfl) rfl (by omega) (fun c158_4 => ?_) (fun c158_4 => ?_)
                      · refine V_iload h (dk dd_X9_takeNumber_1 36 rfl) get6 ?_
                        refine V_iret h hF (dk dd_X9_takeNumber_1 37 rfl) ⟨Nat.le_of_ble_eq_true rfl, Nat.le_of_ble_eq_true rfl⟩ ?_
                        rw [tn_a c4, ← hJ33, ← hJ48, ← hJ114]
                        dsimp only
                        first | rw [if_pos (show g = 0 by assumption)] | rw [if_neg (show ¬ g = 0 by assumption)]
                        first | rw [if_pos (show a2 = s by assumption)] | rw [if_neg (show ¬ a2 = s by assumption)]
                        first | rw [if_neg (by omega)] | rw [if_pos (by omega)]
                        exact ⟨rfl, rfl⟩
                      · refine V_aload_n h (dk dd_X9_takeNumber_1 33 rfl) rfl get0 ?_
                        refine V_iload h (dk dd_X9_takeNumber_1 34 rfl) get5 ?_
                        refine V_put h pf_X9_36 0 get0 (Nat.le_of_ble_eq_true rfl) set5 set0 rfl rfl (dk dd_X9_takeNumber_1 35 rfl) ?_
                        refine V_iload h (dk dd_X9_takeNumber_1 36 rfl) get6 ?_
                        refine V_iret h hF (dk dd_X9_takeNumber_1 37 rfl) ⟨Nat.le_of_ble_eq_true rfl, Nat.le_of_ble_eq_true rfl⟩ ?_
                        rw [tn_a c4, ← hJ33, ← hJ48, ← hJ114]
                        dsimp only
                        first | rw [if_pos (show g = 0 by assumption)] | rw [if_neg (show ¬ g = 0 by assumption)]
                        first | rw [if_pos (show a2 = s by assumption)] | rw [if_neg (show ¬ a2 = s by assumption)]
                        first | rw [if_neg (by omega)] | rw [if_pos (by omega)]
                        exact ⟨rfl, rfl⟩
            refine V_aload_n h (dk dd_X9_takeNumber_0 30 rfl) rfl get0 ?_
            refine V_get h fl_X9_29 0 get0 get3 (dk dd_X9_takeNumber_0 31 rfl) ?_
            refine V_iload h (dk dd_X9_takeNumber_0 32 rfl) get5 ?_
            refine V_iconst h (dk dd_X9_takeNumber_0 33 rfl) ?_
            refine V_iadd h (dk dd_X9_takeNumber_0 34 rfl) ?_
            refine V_icmp_ge (tgt := 114) h (dk dd_X9_takeNumber_0 35 rfl) rfl (by omega) (fun c65 => ?_) (fun c65 => ?_)
            · exact J114 _ _ (by rw [hI57.2.2.2, show (5 - (a2 - s)).toNat = 0 by omega]; rfl)
            · refine V_aload_n h (dk dd_X9_takeNumber_0 36 rfl) rfl get0 ?_
              refine V_aload_n h (dk dd_X9_takeNumber_0 37 rfl) rfl get0 ?_
              refine V_get h fl_X9_29 0 get0 get3 (dk dd_X9_takeNumber_0 38 rfl) ?_
              refine V_callV h st2 ci_X9_72 (pk_c get0 (pk_c get1 pk_n)) rfl 0 get0 rfl (m_X9_signAt l G _ _ _ _ _ _ _ _ _ (by omega) (by omega)) rfl rfl (Nat.le_of_ble_eq_true rfl) (by decide) ⟨rfl, rfl, rfl⟩ (dk dd_X9_takeNumber_0 39 rfl) sk1 (sm_c set0 (sm_c set1 sm_n)) ?_
              refine V_callS h st1 ci_X9_97 pk_n rfl (m_X9_isDigit l G _ (by omega)) rfl rfl (Nat.le_of_ble_eq_true rfl) (by decide) ⟨rfl, rfl, rfl⟩ (dk dd_X9_takeNumber_0 40 rfl) sk1 sm_n ?_
              refine V_ifz_eq (tgt := 114) h (dk dd_X9_takeNumber_0 41 rfl) rfl (fun c79 => ?_) (fun c79 => ?_)
              · exact J114 _ _ (by rw [hI57.2.2.2, show (5 - (a2 - s)).toNat = (4 - (a2 - s)).toNat + 1 by omega, dg_x _ c79])
              · refine V_bipush h (dk dd_X9_takeNumber_0 42 rfl) (by decide) ?_
                refine V_iload h (dk dd_X9_takeNumber_0 43 rfl) get6 ?_
                refine V_imul h (dk dd_X9_takeNumber_0 44 rfl) ?_
                refine V_aload_n h (dk dd_X9_takeNumber_0 45 rfl) rfl get0 ?_
                refine V_aload_n h (dk dd_X9_takeNumber_0 46 rfl) rfl get0 ?_
                refine V_get h fl_X9_29 0 get0 get3 (dk dd_X9_takeNumber_0 47 rfl) ?_
                refine V_callV h st2 ci_X9_72 (pk_c get0 (pk_c get1 pk_n)) rfl 0 get0 rfl (m_X9_signAt l G _ _ _ _ _ _ _ _ _ (by omega) (by omega)) rfl rfl (Nat.le_of_ble_eq_true rfl) (by decide) ⟨rfl, rfl, rfl⟩ (dk dd_X9_takeNumber_0 48 rfl) sk1 (sm_c set0 (sm_c set1 sm_n)) ?_
                refine V_bipush h (dk dd_X9_takeNumber_0 49 rfl) (by decide) ?_
                refine V_isub h (dk dd_X9_takeNumber_1 0 rfl) ?_
                refine V_iadd h (dk dd_X9_takeNumber_1 1 rfl) ?_
                refine V_istore h (dk dd_X9_takeNumber_1 2 rfl) (Nat.le_of_ble_eq_true rfl) rfl set6 ?_
                refine V_aload_n h (dk dd_X9_takeNumber_1 3 rfl) rfl get0 ?_
                refine V_dup h (dk dd_X9_takeNumber_1 4 rfl) rfl ?_
                refine V_get h fl_X9_29 0 get0 get3 (dk dd_X9_takeNumber_1 5 rfl) ?_
                refine V_iconst h (dk dd_X9_takeNumber_1 6 rfl) ?_
                refine V_iadd h (dk dd_X9_takeNumber_1 7 rfl) ?_
                refine V_put h pf_X9_29 0 get0 (Nat.le_of_ble_eq_true rfl) set3 set0 rfl rfl (dk dd_X9_takeNumber_1 8 rfl) ?_
                refine V_goto (tgt := 57) h (dk dd_X9_takeNumber_1 9 rfl) rfl ?_
                exact ih57 _ _ (⟨by omega, by omega, by have := hg2.2.2 (by omega); omega, by rw [hI57.2.2.2, show (5 - (a2 - s)).toNat = (5 - (a2 + 1 - s)).toNat + 1 by omega, dg_e _ c79]⟩) (by omega)
        exact L57 _ _ _ (⟨by omega, by omega, by omega, by rw [Int.sub_self]; rfl⟩) (Nat.lt_succ_self _)
      refine V_iload h (dk dd_X9_takeNumber_0 17 rfl) get4 ?_
      refine V_if_eq (tgt := 48) h (dk dd_X9_takeNumber_0 18 rfl) rfl (by omega) (fun c35 => ?_) (fun c35 => ?_)
      · exact J48 _ (by omega)
      · refine V_aload_n h (dk dd_X9_takeNumber_0 19 rfl) rfl get0 ?_
        refine V_dup h (dk dd_X9_takeNumber_0 20 rfl) rfl ?_
        refine V_get h fl_X9_29 0 get0 get3 (dk dd_X9_takeNumber_0 21 rfl) ?_
        refine V_iconst h (dk dd_X9_takeNumber_0 22 rfl) ?_
        refine V_iadd h (dk dd_X9_takeNumber_0 23 rfl) ?_
        refine V_put h pf_X9_29 0 get0 (Nat.le_of_ble_eq_true rfl) set3 set0 rfl rfl (dk dd_X9_takeNumber_0 24 rfl) ?_
        exact J48 _ (by omega)
    refine V_iload_n h (dk dd_X9_takeNumber_0 5 rfl) rfl get3 ?_
    refine V_if_eq (tgt := 30) h (dk dd_X9_takeNumber_0 6 rfl) rfl (hneg.R) (fun c10 => ?_) (fun c10 => ?_)
    · refine V_iconst h (dk dd_X9_takeNumber_0 15 rfl) ?_
      refine V_istore h (dk dd_X9_takeNumber_0 16 rfl) (Nat.le_of_ble_eq_true rfl) rfl set4 ?_
      exact J33 _ (by unfold ngF; rw [if_neg (by omega)])
    · refine V_aload_n h (dk dd_X9_takeNumber_0 7 rfl) rfl get0 ?_
      refine V_aload_n h (dk dd_X9_takeNumber_0 8 rfl) rfl get0 ?_
      refine V_get h fl_X9_29 0 get0 get3 (dk dd_X9_takeNumber_0 9 rfl) ?_
      refine V_callV h st2 ci_X9_72 (pk_c get0 (pk_c get1 pk_n)) rfl 0 get0 rfl (m_X9_signAt l G _ _ _ _ _ _ _ _ _ (by omega) (by omega)) rfl rfl (Nat.le_of_ble_eq_true rfl) (by decide) ⟨rfl, rfl, rfl⟩ (dk dd_X9_takeNumber_0 10 rfl) sk1 (sm_c set0 (sm_c set1 sm_n)) ?_
      refine V_bipush h (dk dd_X9_takeNumber_0 11 rfl) (by decide) ?_
      refine V_icmp_ne (tgt := 30) h (dk dd_X9_takeNumber_0 12 rfl) rfl (by omega) (fun c23 => ?_) (fun c23 => ?_)
      · refine V_iconst h (dk dd_X9_takeNumber_0 15 rfl) ?_
        refine V_istore h (dk dd_X9_takeNumber_0 16 rfl) (Nat.le_of_ble_eq_true rfl) rfl set4 ?_
        exact J33 _ (by unfold ngF; rw [if_neg (by omega)])
      · refine V_iconst h (dk dd_X9_takeNumber_0 13 rfl) ?_
        refine V_goto (tgt := 31) h (dk dd_X9_takeNumber_0 14 rfl) rfl ?_
        refine V_istore h (dk dd_X9_takeNumber_0 16 rfl) (Nat.le_of_ble_eq_true rfl) rfl set4 ?_
        exact J33 _ (by unfold ngF; rw [if_pos (by omega)])
  · refine V_iconst h (dk dd_X9_takeNumber_0 3 rfl) ?_
    refine V_iret h hF (dk dd_X9_takeNumber_0 4 rfl) ⟨Nat.le_of_ble_eq_true rfl, Nat.le_of_ble_eq_true rfl⟩ ?_
    rw [tn_c c4]
    exact ⟨rfl, rfl⟩

