/-! bitCount, PlaceMarks -/
set_option maxHeartbeats 4000000 in
set_option maxRecDepth 100000 in
theorem m_J13_bitCount_95d88 (l : Launch) (G : GT) (x : Int)  : Ctr l G yJ13_bitCount_95d88 cJ13_bitCount_95d88 2 (Option.some FieldType.int) (rmO 0 0 0 0) [.long (lZ x)] [] (Det (some (.int (iZ (bcZ x)))) []) := by
  refine Ctr.go (own := RJ13) (nm := "bitCount") (by decide +kernel) rfl rfl [some (.long (lZ x)), none] 0 rfl rfl (Nat.le_of_ble_eq_true rfl) ?_
  intro K h hF
  refine V_lload_n h (dk dd_J13_bitCount_95d88_0 0 rfl) rfl get0 ?_
  refine V_lload_n h (dk dd_J13_bitCount_95d88_0 1 rfl) rfl get0 ?_
  refine V_iconst h (dk dd_J13_bitCount_95d88_0 2 rfl) ?_
  refine V_lushr h (dk dd_J13_bitCount_95d88_0 3 rfl) ?_
  refine V_ldc2 h q2_216 (dk dd_J13_bitCount_95d88_0 4 rfl) ?_
  refine V_land h (dk dd_J13_bitCount_95d88_0 5 rfl) ?_
  refine V_lsub h (dk dd_J13_bitCount_95d88_0 6 rfl) ?_
  refine V_lstore_n h (dk dd_J13_bitCount_95d88_0 7 rfl) rfl (Nat.le_of_ble_eq_true rfl) rfl set0 set1 ?_
  refine V_lload_n h (dk dd_J13_bitCount_95d88_0 8 rfl) rfl get0 ?_
  refine V_ldc2 h q2_217 (dk dd_J13_bitCount_95d88_0 9 rfl) ?_
  refine V_land h (dk dd_J13_bitCount_95d88_0 10 rfl) ?_
  refine V_lload_n h (dk dd_J13_bitCount_95d88_0 11 rfl) rfl get0 ?_
  refine V_iconst h (dk dd_J13_bitCount_95d88_0 12 rfl) ?_
  refine V_lushr h (dk dd_J13_bitCount_95d88_0 13 rfl) ?_
  refine V_ldc2 h q2_217 (dk dd_J13_bitCount_95d88_0 14 rfl) ?_
  refine V_land h (dk dd_J13_bitCount_95d88_0 15 rfl) ?_
  refine V_ladd h (dk dd_J13_bitCount_95d88_0 16 rfl) ?_
  refine V_lstore_n h (dk dd_J13_bitCount_95d88_0 17 rfl) rfl (Nat.le_of_ble_eq_true rfl) rfl set0 set1 ?_
  refine V_lload_n h (dk dd_J13_bitCount_95d88_0 18 rfl) rfl get0 ?_
  refine V_lload_n h (dk dd_J13_bitCount_95d88_0 19 rfl) rfl get0 ?_
  refine V_iconst h (dk dd_J13_bitCount_95d88_0 20 rfl) ?_
  refine V_lushr h (dk dd_J13_bitCount_95d88_0 21 rfl) ?_
  refine V_ladd h (dk dd_J13_bitCount_95d88_0 22 rfl) ?_
  refine V_ldc2 h q2_218 (dk dd_J13_bitCount_95d88_0 23 rfl) ?_
  refine V_land h (dk dd_J13_bitCount_95d88_0 24 rfl) ?_
  refine V_lstore_n h (dk dd_J13_bitCount_95d88_0 25 rfl) rfl (Nat.le_of_ble_eq_true rfl) rfl set0 set1 ?_
  refine V_lload_n h (dk dd_J13_bitCount_95d88_0 26 rfl) rfl get0 ?_
  refine V_lload_n h (dk dd_J13_bitCount_95d88_0 27 rfl) rfl get0 ?_
  refine V_bipush h (dk dd_J13_bitCount_95d88_0 28 rfl) (by decide) ?_
  refine V_lushr h (dk dd_J13_bitCount_95d88_0 29 rfl) ?_
  refine V_ladd h (dk dd_J13_bitCount_95d88_0 30 rfl) ?_
  refine V_lstore_n h (dk dd_J13_bitCount_95d88_0 31 rfl) rfl (Nat.le_of_ble_eq_true rfl) rfl set0 set1 ?_
  refine V_lload_n h (dk dd_J13_bitCount_95d88_0 32 rfl) rfl get0 ?_
  refine V_lload_n h (dk dd_J13_bitCount_95d88_0 33 rfl) rfl get0 ?_
  refine V_bipush h (dk dd_J13_bitCount_95d88_0 34 rfl) (by decide) ?_
  refine V_lushr h (dk dd_J13_bitCount_95d88_0 35 rfl) ?_
  refine V_ladd h (dk dd_J13_bitCount_95d88_0 36 rfl) ?_
  refine V_lstore_n h (dk dd_J13_bitCount_95d88_0 37 rfl) rfl (Nat.le_of_ble_eq_true rfl) rfl set0 set1 ?_
  refine V_lload_n h (dk dd_J13_bitCount_95d88_0 38 rfl) rfl get0 ?_
  refine V_lload_n h (dk dd_J13_bitCount_95d88_0 39 rfl) rfl get0 ?_
  refine V_bipush h (dk dd_J13_bitCount_95d88_0 40 rfl) (by decide) ?_
  refine V_lushr h (dk dd_J13_bitCount_95d88_0 41 rfl) ?_
  refine V_ladd h (dk dd_J13_bitCount_95d88_0 42 rfl) ?_
  refine V_lstore_n h (dk dd_J13_bitCount_95d88_0 43 rfl) rfl (Nat.le_of_ble_eq_true rfl) rfl set0 set1 ?_
  refine V_lload_n h (dk dd_J13_bitCount_95d88_0 44 rfl) rfl get0 ?_
  refine V_l2i h (dk dd_J13_bitCount_95d88_0 45 rfl) ?_
  refine V_bipush h (dk dd_J13_bitCount_95d88_0 46 rfl) (by decide) ?_
  refine V_iand h (dk dd_J13_bitCount_95d88_0 47 rfl) ?_
  refine V_iret h hF (dk dd_J13_bitCount_95d88_0 48 rfl) ⟨Nat.le_of_ble_eq_true rfl, Nat.le_of_ble_eq_true rfl⟩ ?_
  exact det_i rfl rfl

set_option maxHeartbeats 4000000 in
set_option maxRecDepth 100000 in
theorem m_X6_lowestBit (l : Launch) (G : GT) (x : Int)  : Ctr l G yX6_lowestBit cX6_lowestBit 2 (Option.some FieldType.int) (rmO 1 0 0 21) [.long (lZ x)] [] (Det (some (.int (iZ (lowZ x)))) []) := by
  refine Ctr.go (own := RX6) (nm := "lowestBit") (by decide +kernel) rfl rfl [some (.long (lZ x)), none] 0 rfl rfl (Nat.le_of_ble_eq_true rfl) ?_
  intro K h hF
  refine V_lload_n h (dk dd_X6_lowestBit_0 0 rfl) rfl get0 ?_
  refine V_lload_n h (dk dd_X6_lowestBit_0 1 rfl) rfl get0 ?_
  refine V_lneg h (dk dd_X6_lowestBit_0 2 rfl) ?_
  refine V_land h (dk dd_X6_lowestBit_0 3 rfl) ?_
  refine V_lconst1 h (dk dd_X6_lowestBit_0 4 rfl) ?_
  refine V_lsub h (dk dd_X6_lowestBit_0 5 rfl) ?_
  refine V_callS h st1 ci_X6_25 pk_n rfl (m_J13_bitCount_95d88 l G _ ) rfl rfl (Nat.le_of_ble_eq_true rfl) (by decide) ⟨rfl, rfl, rfl⟩ (dk dd_X6_lowestBit_0 6 rfl) sk1 sm_n ?_
  refine V_iret h hF (dk dd_X6_lowestBit_0 7 rfl) ⟨Nat.le_of_ble_eq_true rfl, Nat.le_of_ble_eq_true rfl⟩ ?_
  exact det_i rfl rfl

set_option maxHeartbeats 4000000 in
set_option maxRecDepth 100000 in
theorem m_X6_forget (l : Launch) (G : GT) (a b : Nat) (c : Int) (f : Int → Int)  : Ctr l G yX6_forget cX6_forget 2 none (rmO 0 0 0 0) [.ref a] [(a, .inr (5, [.ref b, .int (iZ c)])), (b, .inl (G.2 1, 434, .inr (.inl (lF f))))] (Det none [(a, .inr (5, [.ref b, .int (iZ 0)])), (b, .inl (G.2 1, 434, .inr (.inl (lF (clr0 f 434)))))]) := by
  refine Ctr.go (own := RX6) (nm := "forget") (by decide +kernel) rfl rfl [some (.ref a), none] 1 rfl rfl (Nat.le_of_ble_eq_true rfl) ?_
  intro K h hF
  refine V_iconst h (dk dd_X6_forget_0 0 rfl) ?_
  refine V_istore_n h (dk dd_X6_forget_0 1 rfl) rfl (Nat.le_of_ble_eq_true rfl) rfl set1 ?_
  have L2 : ∀ (fu : Nat) (i : Int), 0 ≤ i ∧ i ≤ 434 → (434 - i).toNat < fu → V K (0, 0) 2 [some (.ref a), some (.int (iZ i))] [] [(a, .inr (5, [.ref b, .int (iZ c)])), (b, .inl (G.2 1, 434, .inr (.inl (lF (clr0 f i)))))] := by
    intro fu
    induction fu with
    | zero => intro i _ hm; exact absurd hm (Nat.not_lt_zero _)
    | succ fu ih2 =>
      intro i hI2 hm2
      refine V_iload_n h (dk dd_X6_forget_0 2 rfl) rfl get1 ?_
      refine V_aload_n h (dk dd_X6_forget_0 3 rfl) rfl get0 ?_
      refine V_get h fl_X6_9 0 get0 get0 (dk dd_X6_forget_0 4 rfl) ?_
      refine V_alen h 1 get1 1 rfl (dk dd_X6_forget_0 5 rfl) ?_
      refine V_icmp_ge (tgt := 24) h (dk dd_X6_forget_0 6 rfl) rfl (by omega) (fun c8 => ?_) (fun c8 => ?_)
      · have e : i = 434 := by omega
        subst e
        refine V_aload_n h (dk dd_X6_forget_0 14 rfl) rfl get0 ?_
        refine V_iconst h (dk dd_X6_forget_0 15 rfl) ?_
        refine V_put h pf_X6_15 0 get0 (Nat.le_of_ble_eq_true rfl) set1 set0 rfl rfl (dk dd_X6_forget_0 16 rfl) ?_
        refine V_vret h hF (dk dd_X6_forget_0 17 rfl) ⟨Nat.le_of_ble_eq_true rfl, Nat.le_of_ble_eq_true rfl⟩ ?_
        exact det_v rfl
      · refine V_aload_n h (dk dd_X6_forget_0 7 rfl) rfl get0 ?_
        refine V_get h fl_X6_9 0 get0 get0 (dk dd_X6_forget_0 8 rfl) ?_
        refine V_iload_n h (dk dd_X6_forget_0 9 rfl) rfl get1 ?_
        refine V_lconst0 h (dk dd_X6_forget_0 10 rfl) ?_
        refine V_last h 1 get1 (by omega) set1 (dk dd_X6_forget_0 11 rfl) ?_
        rw [clr0_s hI2.1]
        refine V_iinc h (dk dd_X6_forget_0 12 rfl) get1 (Nat.le_of_ble_eq_true rfl) rfl set1 ?_
        refine V_goto (tgt := 2) h (dk dd_X6_forget_0 13 rfl) rfl ?_
        exact ih2 _ (by omega) (by omega)
  have e0 := L2 _ 0 (by omega) (Nat.lt_succ_self _)
  rw [clr0_0] at e0
  exact e0

set_option maxHeartbeats 4000000 in
set_option maxRecDepth 100000 in
theorem m_X6_mark (l : Launch) (G : GT) (a b : Nat) (c : Int) (f : Int → Int) (x : Int) (hx : 0 ≤ x ∧ x < 27720) : Ctr l G yX6_mark cX6_mark 4 none (rmO 1 0 0 20) [.ref a, .int (iZ x)] [(a, .inr (5, [.ref b, .int (iZ c)])), (b, .inl (G.2 1, 434, .inr (.inl (lF f))))] (Det none [(a, .inr (5, [.ref b, .int (iZ (mkC f x c))])), (b, .inl (G.2 1, 434, .inr (.inl (lF (mkF f x)))))]) := by
  refine Ctr.go (own := RX6) (nm := "mark") (by decide +kernel) rfl rfl [some (.ref a), some (.int (iZ x)), none, none] 2 rfl rfl (Nat.le_of_ble_eq_true rfl) ?_
  intro K h hF
  refine V_iload_n h (dk dd_X6_mark_0 0 rfl) rfl get1 ?_
  refine V_callS h st1 ci_X6_19 pk_n rfl (m_X0_isPlace l G _ (by omega)) rfl rfl (Nat.le_of_ble_eq_true rfl) (by decide) ⟨rfl, rfl, rfl⟩ (dk dd_X6_mark_0 1 rfl) sk1 sm_n ?_
  refine V_ifz_ne (tgt := 8) h (dk dd_X6_mark_0 2 rfl) rfl (fun c4 => ?_) (fun c4 => ?_)
  · refine V_lconst1 h (dk dd_X6_mark_0 4 rfl) ?_
    refine V_iload_n h (dk dd_X6_mark_0 5 rfl) rfl get1 ?_
    refine V_bipush h (dk dd_X6_mark_0 6 rfl) (by decide) ?_
    refine V_iremP h (dk dd_X6_mark_0 7 rfl) (by omega) ?_
    refine V_lshl h (dk dd_X6_mark_0 8 rfl) ?_
    refine V_lstore_n h (dk dd_X6_mark_0 9 rfl) rfl (Nat.le_of_ble_eq_true rfl) rfl set2 set3 ?_
    refine V_aload_n h (dk dd_X6_mark_0 10 rfl) rfl get0 ?_
    refine V_get h fl_X6_9 0 get0 get0 (dk dd_X6_mark_0 11 rfl) ?_
    refine V_iload_n h (dk dd_X6_mark_0 12 rfl) rfl get1 ?_
    refine V_bipush h (dk dd_X6_mark_0 13 rfl) (by decide) ?_
    refine V_idivP h (dk dd_X6_mark_0 14 rfl) (by omega) ?_
    refine V_lald h 1 get1 (by omega) (dk dd_X6_mark_0 15 rfl) ?_
    refine V_lload_n h (dk dd_X6_mark_0 16 rfl) rfl get2 ?_
    refine V_land h (dk dd_X6_mark_0 17 rfl) ?_
    refine V_lconst0 h (dk dd_X6_mark_0 18 rfl) ?_
    refine V_lcmp_ne (tgt := 54) h (dk dd_X6_mark_0 19 rfl) (dk dd_X6_mark_0 20 rfl) rfl (⟨lZ_R _, by decide⟩) (fun c27 => ?_) (fun c27 => ?_)
    · refine V_vret h hF (dk dd_X6_mark_0 37 rfl) ⟨Nat.le_of_ble_eq_true rfl, Nat.le_of_ble_eq_true rfl⟩ ?_
      first | exact det_v (by rw [(mk_t (c := c) c27).1, (mk_t (c := c) c27).2]) | exact det_v (by rw [(mk_f (c := c) c27).1, (mk_f (c := c) c27).2])
    · refine V_aload_n h (dk dd_X6_mark_0 21 rfl) rfl get0 ?_
      refine V_get h fl_X6_9 0 get0 get0 (dk dd_X6_mark_0 22 rfl) ?_
      refine V_iload_n h (dk dd_X6_mark_0 23 rfl) rfl get1 ?_
      refine V_bipush h (dk dd_X6_mark_0 24 rfl) (by decide) ?_
      refine V_idivP h (dk dd_X6_mark_0 25 rfl) (by omega) ?_
      refine V_dup2 h (dk dd_X6_mark_0 26 rfl) rfl rfl ?_
      refine V_lald h 1 get1 (by omega) (dk dd_X6_mark_0 27 rfl) ?_
      refine V_lload_n h (dk dd_X6_mark_0 28 rfl) rfl get2 ?_
      refine V_lor h (dk dd_X6_mark_0 29 rfl) ?_
      refine V_last h 1 get1 (by omega) set1 (dk dd_X6_mark_0 30 rfl) ?_
      refine V_aload_n h (dk dd_X6_mark_0 31 rfl) rfl get0 ?_
      refine V_dup h (dk dd_X6_mark_0 32 rfl) rfl ?_
      refine V_get h fl_X6_15 0 get0 get1 (dk dd_X6_mark_0 33 rfl) ?_
      refine V_iconst h (dk dd_X6_mark_0 34 rfl) ?_
      refine V_iadd h (dk dd_X6_mark_0 35 rfl) ?_
      refine V_put h pf_X6_15 0 get0 (Nat.le_of_ble_eq_true rfl) set1 set0 rfl rfl (dk dd_X6_mark_0 36 rfl) ?_
      refine V_vret h hF (dk dd_X6_mark_0 37 rfl) ⟨Nat.le_of_ble_eq_true rfl, Nat.le_of_ble_eq_true rfl⟩ ?_
      first | exact det_v (by rw [(mk_t (c := c) c27).1, (mk_t (c := c) c27).2]) | exact det_v (by rw [(mk_f (c := c) c27).1, (mk_f (c := c) c27).2])
  · exact absurd hx c4

set_option maxHeartbeats 4000000 in
set_option maxRecDepth 100000 in
theorem m_X6_longestGap (l : Launch) (G : GT) (a b : Nat) (c : Int) (f : Int → Int) (hc : 0 ≤ c ∧ c ≤ 27720) (hf : ∀ i, R64 (f i)) : Ctr l G yX6_longestGap cX6_longestGap 9 (Option.some FieldType.int) (rmO 2 0 0 42) [.ref a] [(a, .inr (5, [.ref b, .int (iZ c)])), (b, .inl (G.2 1, 434, .inr (.inl (lF f))))] (Det (some (.int (iZ (gapC f c)))) [(a, .inr (5, [.ref b, .int (iZ c)])), (b, .inl (G.2 1, 434, .inr (.inl (lF f))))]) := by
  refine Ctr.go (own := RX6) (nm := "longestGap") (by decide +kernel) rfl rfl [some (.ref a), none, none, none, none, none, none, none, none] 8 rfl rfl (Nat.le_of_ble_eq_true rfl) ?_
  intro K h hF
  refine V_aload_n h (dk dd_X6_longestGap_0 0 rfl) rfl get0 ?_
  refine V_get h fl_X6_15 0 get0 get1 (dk dd_X6_longestGap_0 1 rfl) ?_
  refine V_if_ne (tgt := 11) h (dk dd_X6_longestGap_0 2 rfl) rfl (by omega) (fun c4 => ?_) (fun c4 => ?_)
  · refine V_iconst h (dk dd_X6_longestGap_0 5 rfl) ?_
    refine V_istore_n h (dk dd_X6_longestGap_0 6 rfl) rfl (Nat.le_of_ble_eq_true rfl) rfl set1 ?_
    refine V_iconst h (dk dd_X6_longestGap_0 7 rfl) ?_
    refine V_istore_n h (dk dd_X6_longestGap_0 8 rfl) rfl (Nat.le_of_ble_eq_true rfl) rfl set2 ?_
    refine V_iconst h (dk dd_X6_longestGap_0 9 rfl) ?_
    refine V_istore_n h (dk dd_X6_longestGap_0 10 rfl) rfl (Nat.le_of_ble_eq_true rfl) rfl set3 ?_
    refine V_iconst h (dk dd_X6_longestGap_0 11 rfl) ?_
    refine V_istore h (dk dd_X6_longestGap_0 12 rfl) (Nat.le_of_ble_eq_true rfl) rfl set4 ?_
    have L20 : ∀ (fu : Nat) (g a1 b1 i : Int) (q : Nat), i = (q : Int) ∧ q ≤ 434 ∧ scanG (hasB f) (64 * q) = (g, a1, b1) → (434 - q) < fu → V K (0, 0) 20 [some (.ref a), some (.int (iZ g)), some (.int (iZ a1)), some (.int (iZ b1)), some (.int (iZ i)), none, none, none, none] [] [(a, .inr (5, [.ref b, .int (iZ c)])), (b, .inl (G.2 1, 434, .inr (.inl (lF f))))] := by
      intro fu
      induction fu with
      | zero => intro g a1 b1 i q _ hm; exact absurd hm (Nat.not_lt_zero _)
      | succ fu ih20 =>
        intro g a1 b1 i q hI20 hm20
        obtain ⟨hi, hq, hs⟩ := hI20
        subst hi
        have hR := scan_R (hasB f) (64 * q)
        rw [hs] at hR
        dsimp only at hR
        refine V_iload h (dk dd_X6_longestGap_0 13 rfl) get4 ?_
        refine V_aload_n h (dk dd_X6_longestGap_0 14 rfl) rfl get0 ?_
        refine V_get h fl_X6_9 0 get0 get0 (dk dd_X6_longestGap_0 15 rfl) ?_
        refine V_alen h 1 get1 1 rfl (dk dd_X6_longestGap_0 16 rfl) ?_
        refine V_icmp_ge (tgt := 111) h (dk dd_X6_longestGap_0 17 rfl) rfl (by omega) (fun c27 => ?_) (fun c27 => ?_)
        · have e : q = 434 := by omega
          subst e
          refine V_iload_n h (dk dd_X6_longestGap_1 13 rfl) rfl get1 ?_
          refine V_iload_n h (dk dd_X6_longestGap_1 14 rfl) rfl get2 ?_
          refine V_sipush h (dk dd_X6_longestGap_1 15 rfl) (by decide) ?_
          refine V_iadd h (dk dd_X6_longestGap_1 16 rfl) ?_
          refine V_iload_n h (dk dd_X6_longestGap_1 17 rfl) rfl get3 ?_
          refine V_isub h (dk dd_X6_longestGap_1 18 rfl) ?_
          refine V_iconst h (dk dd_X6_longestGap_1 19 rfl) ?_
          refine V_isub h (dk dd_X6_longestGap_1 20 rfl) ?_
          refine V_callS h st2 ci_X6_34 pk_n rfl (m_J9_max_7cf53 l G _ _ (by omega) (by omega)) rfl rfl (Nat.le_of_ble_eq_true rfl) (by decide) ⟨rfl, rfl, rfl⟩ (dk dd_X6_longestGap_1 21 rfl) sk1 sm_n ?_
          refine V_iret h hF (dk dd_X6_longestGap_1 22 rfl) ⟨Nat.le_of_ble_eq_true rfl, Nat.le_of_ble_eq_true rfl⟩ ?_
          exact det_i (by unfold gapC; rw [if_neg c4, show (27776 : Nat) = 64 * 434 from rfl, hs]) rfl
        · refine V_aload_n h (dk dd_X6_longestGap_0 18 rfl) rfl get0 ?_
          refine V_get h fl_X6_9 0 get0 get0 (dk dd_X6_longestGap_0 19 rfl) ?_
          refine V_iload h (dk dd_X6_longestGap_0 20 rfl) get4 ?_
          refine V_lald h 1 get1 (by omega) (dk dd_X6_longestGap_0 21 rfl) ?_
          refine V_lstore h (dk dd_X6_longestGap_0 22 rfl) (Nat.le_of_ble_eq_true rfl) rfl set5 set6 ?_
          refine V_iconst h (dk dd_X6_longestGap_0 23 rfl) ?_
          refine V_istore h (dk dd_X6_longestGap_0 24 rfl) (Nat.le_of_ble_eq_true rfl) rfl set7 ?_
          have L42 : ∀ (fu : Nat) (g2 a2 b2 w t : Int) (bb : Nat), 0 ≤ t ∧ t ≤ (bb : Int) ∧ bb ≤ 64 ∧ R64 w ∧ (∀ k, k < 64 → bitN w k = (bitN (f (q : Int)) k && decide (bb ≤ k))) ∧ scanG (hasB f) (64 * q + bb) = (g2, a2, b2) → (64 - t).toNat < fu → V K (0, 0) 42 [some (.ref a), some (.int (iZ g2)), some (.int (iZ a2)), some (.int (iZ b2)), some (.int (iZ (q : Int))), some (.long (lZ w)), none, some (.int (iZ t)), none] [] [(a, .inr (5, [.ref b, .int (iZ c)])), (b, .inl (G.2 1, 434, .inr (.inl (lF f))))] := by
            intro fu
            induction fu with
            | zero => intro g2 a2 b2 w t bb _ hm; exact absurd hm (Nat.not_lt_zero _)
            | succ fu ih42 =>
              intro g2 a2 b2 w t bb hI42 hm42
              obtain ⟨ht0, htb, hb, hw, hbit, hs2⟩ := hI42
              have hR2 := scan_R (hasB f) (64 * q + bb)
              rw [hs2] at hR2
              dsimp only at hR2
              refine V_iload h (dk dd_X6_longestGap_0 25 rfl) get7 ?_
              refine V_bipush h (dk dd_X6_longestGap_0 26 rfl) (by decide) ?_
              refine V_icmp_ge (tgt := 105) h (dk dd_X6_longestGap_0 27 rfl) rfl (by omega) (fun c46 => ?_) (fun c46 => ?_)
              · have hfin := scan_end hs2 hb (fun j h1 h2 => by omega)
                refine V_iinc h (dk dd_X6_longestGap_1 11 rfl) get4 (Nat.le_of_ble_eq_true rfl) rfl set4 ?_
                refine V_goto (tgt := 20) h (dk dd_X6_longestGap_1 12 rfl) rfl ?_
                refine V_wk (lw_s (lw_s (lw_s (lw_s (lw_s (lw_o (lw_s (lw_o (lw_s lw_n))))))))) ?_
                exact ih20 _ _ _ _ _ (⟨by omega, by omega, hfin⟩) (by omega)
              · refine V_lload h (dk dd_X6_longestGap_0 28 rfl) get5 ?_
                refine V_lconst0 h (dk dd_X6_longestGap_0 29 rfl) ?_
                refine V_lcmp_eq (tgt := 105) h (dk dd_X6_longestGap_0 30 rfl) (dk dd_X6_longestGap_0 31 rfl) rfl (⟨hw, by decide⟩) (fun c52 => ?_) (fun c52 => ?_)
                · have hfin := scan_end hs2 hb (fun j h1 h2 => by have := (bit_zero hw).mp c52 j h2; rw [hbit j h2, decide_eq_true h1, Bool.and_true] at this; exact this)
                  refine V_iinc h (dk dd_X6_longestGap_1 11 rfl) get4 (Nat.le_of_ble_eq_true rfl) rfl set4 ?_
                  refine V_goto (tgt := 20) h (dk dd_X6_longestGap_1 12 rfl) rfl ?_
                  refine V_wk (lw_s (lw_s (lw_s (lw_s (lw_s (lw_o (lw_s (lw_o (lw_s lw_n))))))))) ?_
                  exact ih20 _ _ _ _ _ (⟨by omega, by omega, hfin⟩) (by omega)
                · obtain ⟨k, hk, hk1, hk2, hk3, hk4⟩ := low_sp hw c52
                  have hbk : bb ≤ k := by have := hbit k hk; rw [hk1] at this; simp at this; omega
                  have hyes : bitN (f (q : Int)) k = true := by have := hbit k hk; rw [hk1] at this; simp at this; exact this.1
                  have hst := scan_step hs2 hbk hk (fun j h1 h2 => by have := hk2 j h2; rw [hbit j (by omega), decide_eq_true h1, Bool.and_true] at this; exact this) hyes
                  refine V_bipush h (dk dd_X6_longestGap_0 32 rfl) (by decide) ?_
                  refine V_iload h (dk dd_X6_longestGap_0 33 rfl) get4 ?_
                  refine V_imul h (dk dd_X6_longestGap_0 34 rfl) ?_
                  refine V_lload h (dk dd_X6_longestGap_0 35 rfl) get5 ?_
                  refine V_callS h st1 ci_X6_31 pk_n rfl (m_X6_lowestBit l G _ ) rfl rfl (Nat.le_of_ble_eq_true rfl) (by decide) ⟨rfl, rfl, rfl⟩ (dk dd_X6_longestGap_0 36 rfl) sk1 sm_n ?_
                  rw [hk3]
                  refine V_iadd h (dk dd_X6_longestGap_0 37 rfl) ?_
                  refine V_istore h (dk dd_X6_longestGap_0 38 rfl) (Nat.le_of_ble_eq_true rfl) rfl set8 ?_
                  refine V_lload h (dk dd_X6_longestGap_0 39 rfl) get5 ?_
                  refine V_lload h (dk dd_X6_longestGap_0 40 rfl) get5 ?_
                  refine V_lconst1 h (dk dd_X6_longestGap_0 41 rfl) ?_
                  refine V_lsub h (dk dd_X6_longestGap_0 42 rfl) ?_
                  refine V_land h (dk dd_X6_longestGap_0 43 rfl) ?_
                  refine V_lstore h (dk dd_X6_longestGap_0 44 rfl) (Nat.le_of_ble_eq_true rfl) rfl set5 set6 ?_
                  refine V_iload_n h (dk dd_X6_longestGap_0 45 rfl) rfl get2 ?_
                  refine V_if_ge (tgt := 85) h (dk dd_X6_longestGap_0 46 rfl) rfl (by omega) (fun c79 => ?_) (fun c79 => ?_)
                  · rw [if_neg (by omega)] at hst
                    refine V_iload_n h (dk dd_X6_longestGap_0 49 rfl) rfl get1 ?_
                    refine V_iload h (dk dd_X6_longestGap_1 0 rfl) get8 ?_
                    refine V_iload_n h (dk dd_X6_longestGap_1 1 rfl) rfl get3 ?_
                    refine V_isub h (dk dd_X6_longestGap_1 2 rfl) ?_
                    refine V_iconst h (dk dd_X6_longestGap_1 3 rfl) ?_
                    refine V_isub h (dk dd_X6_longestGap_1 4 rfl) ?_
                    refine V_callS h st2 ci_X6_34 pk_n rfl (m_J9_max_7cf53 l G _ _ (by omega) (by omega)) rfl rfl (Nat.le_of_ble_eq_true rfl) (by decide) ⟨rfl, rfl, rfl⟩ (dk dd_X6_longestGap_1 5 rfl) sk1 sm_n ?_
                    refine V_istore_n h (dk dd_X6_longestGap_1 6 rfl) rfl (Nat.le_of_ble_eq_true rfl) rfl set1 ?_
                    refine V_iload h (dk dd_X6_longestGap_1 7 rfl) get8 ?_
                    refine V_istore_n h (dk dd_X6_longestGap_1 8 rfl) rfl (Nat.le_of_ble_eq_true rfl) rfl set3 ?_
                    refine V_iinc h (dk dd_X6_longestGap_1 9 rfl) get7 (Nat.le_of_ble_eq_true rfl) rfl set7 ?_
                    refine V_goto (tgt := 42) h (dk dd_X6_longestGap_1 10 rfl) rfl ?_
                    refine V_wk (lw_s (lw_s (lw_s (lw_s (lw_s (lw_s (lw_s (lw_s (lw_o lw_n))))))))) ?_
                    exact ih42 _ _ _ _ _ _ (⟨by omega, by omega, by omega, lZ_R _, fun j hj => by rw [hk4 j hj, hbit j hj]; exact bit_next hbk (fun h1 h2 => by have := hk2 j h2; rw [hbit j hj, decide_eq_true h1, Bool.and_true] at this; exact this), hst⟩) (by omega)
                  · refine V_iload h (dk dd_X6_longestGap_0 47 rfl) get8 ?_
                    refine V_istore_n h (dk dd_X6_longestGap_0 48 rfl) rfl (Nat.le_of_ble_eq_true rfl) rfl set2 ?_
                    rw [if_pos c79] at hst
                    refine V_iload_n h (dk dd_X6_longestGap_0 49 rfl) rfl get1 ?_
                    refine V_iload h (dk dd_X6_longestGap_1 0 rfl) get8 ?_
                    refine V_iload_n h (dk dd_X6_longestGap_1 1 rfl) rfl get3 ?_
                    refine V_isub h (dk dd_X6_longestGap_1 2 rfl) ?_
                    refine V_iconst h (dk dd_X6_longestGap_1 3 rfl) ?_
                    refine V_isub h (dk dd_X6_longestGap_1 4 rfl) ?_
                    refine V_callS h st2 ci_X6_34 pk_n rfl (m_J9_max_7cf53 l G _ _ (by omega) (by omega)) rfl rfl (Nat.le_of_ble_eq_true rfl) (by decide) ⟨rfl, rfl, rfl⟩ (dk dd_X6_longestGap_1 5 rfl) sk1 sm_n ?_
                    refine V_istore_n h (dk dd_X6_longestGap_1 6 rfl) rfl (Nat.le_of_ble_eq_true rfl) rfl set1 ?_
                    refine V_iload h (dk dd_X6_longestGap_1 7 rfl) get8 ?_
                    refine V_istore_n h (dk dd_X6_longestGap_1 8 rfl) rfl (Nat.le_of_ble_eq_true rfl) rfl set3 ?_
                    refine V_iinc h (dk dd_X6_longestGap_1 9 rfl) get7 (Nat.le_of_ble_eq_true rfl) rfl set7 ?_
                    refine V_goto (tgt := 42) h (dk dd_X6_longestGap_1 10 rfl) rfl ?_
                    refine V_wk (lw_s (lw_s (lw_s (lw_s (lw_s (lw_s (lw_s (lw_s (lw_o lw_n))))))))) ?_
                    exact ih42 _ _ _ _ _ _ (⟨by omega, by omega, by omega, lZ_R _, fun j hj => by rw [hk4 j hj, hbit j hj]; exact bit_next hbk (fun h1 h2 => by have := hk2 j h2; rw [hbit j hj, decide_eq_true h1, Bool.and_true] at this; exact this), hst⟩) (by omega)
          exact L42 _ g a1 b1 (f (q : Int)) 0 0 ⟨by omega, by omega, by omega, hf _, fun k hk => by rw [decide_eq_true (Nat.zero_le k), Bool.and_true], hs⟩ (Nat.lt_succ_self _)
    exact L20 _ 0 (-1) (-1) 0 0 ⟨rfl, by omega, rfl⟩ (Nat.lt_succ_self _)
  · refine V_sipush h (dk dd_X6_longestGap_0 3 rfl) (by decide) ?_
    refine V_iret h hF (dk dd_X6_longestGap_0 4 rfl) ⟨Nat.le_of_ble_eq_true rfl, Nat.le_of_ble_eq_true rfl⟩ ?_
    exact det_i (by unfold gapC; rw [if_pos c4]) rfl

