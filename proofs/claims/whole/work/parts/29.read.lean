/-! Text: readOne, errorPlace; Parts.append in general -/
set_option maxHeartbeats 4000000 in
set_option maxRecDepth 100000 in
theorem m_X4_append_g (l : Launch) (G : GT) (a b : Nat) (n : Int) (f : Int → Int) (k p m q : Int) (hn : 0 ≤ n ∧ n ≤ 12) : Ctr l G yX4_append cX4_append 6 none (rmO 0 0 0 0) [.ref a, .int (iZ k), .int (iZ p), .int (iZ m), .int (iZ q)] [(a, .inr (3, [.ref b, .int (iZ n)])), (b, .inl (G.2 0, 48, .inl (iF f)))] (Det none [(a, .inr (3, [.ref b, .int (iZ (apC n))])), (b, .inl (G.2 0, 48, .inl (iF (apF f n k p m q))))]) := by
  refine Ctr.go (own := RX4) (nm := "append") (by decide +kernel) rfl rfl [some (.ref a), some (.int (iZ k)), some (.int (iZ p)), some (.int (iZ m)), some (.int (iZ q)), none] 1 rfl rfl (Nat.le_of_ble_eq_true rfl) ?_
  intro K h hF
  refine V_aload_n h (dk dd_X4_append_0 0 rfl) rfl get0 ?_
  refine V_get h fl_X4_41 0 get0 get1 (dk dd_X4_append_0 1 rfl) ?_
  refine V_bipush h (dk dd_X4_append_0 2 rfl) (by decide) ?_
  refine V_icmp_lt (tgt := 10) h (dk dd_X4_append_0 3 rfl) rfl (by omega) (fun c6 => ?_) (fun c6 => ?_)
  · refine V_aload_n h (dk dd_X4_append_0 5 rfl) rfl get0 ?_
    refine V_get h fl_X4_41 0 get0 get1 (dk dd_X4_append_0 6 rfl) ?_
    refine V_iconst h (dk dd_X4_append_0 7 rfl) ?_
    refine V_imul h (dk dd_X4_append_0 8 rfl) ?_
    refine V_istore h (dk dd_X4_append_0 9 rfl) (Nat.le_of_ble_eq_true rfl) rfl set5 ?_
    refine V_aload_n h (dk dd_X4_append_0 10 rfl) rfl get0 ?_
    refine V_get h fl_X4_9 0 get0 get0 (dk dd_X4_append_0 11 rfl) ?_
    refine V_iload h (dk dd_X4_append_0 12 rfl) get5 ?_
    refine V_iconst h (dk dd_X4_append_0 13 rfl) ?_
    refine V_iadd h (dk dd_X4_append_0 14 rfl) ?_
    refine V_iload_n h (dk dd_X4_append_0 15 rfl) rfl get1 ?_
    refine V_iast h 1 get1 (by omega) set1 (dk dd_X4_append_0 16 rfl) ?_
    refine V_aload_n h (dk dd_X4_append_0 17 rfl) rfl get0 ?_
    refine V_get h fl_X4_9 0 get0 get0 (dk dd_X4_append_0 18 rfl) ?_
    refine V_iload h (dk dd_X4_append_0 19 rfl) get5 ?_
    refine V_iconst h (dk dd_X4_append_0 20 rfl) ?_
    refine V_iadd h (dk dd_X4_append_0 21 rfl) ?_
    refine V_iload_n h (dk dd_X4_append_0 22 rfl) rfl get2 ?_
    refine V_iast h 1 get1 (by omega) set1 (dk dd_X4_append_0 23 rfl) ?_
    refine V_aload_n h (dk dd_X4_append_0 24 rfl) rfl get0 ?_
    refine V_get h fl_X4_9 0 get0 get0 (dk dd_X4_append_0 25 rfl) ?_
    refine V_iload h (dk dd_X4_append_0 26 rfl) get5 ?_
    refine V_iconst h (dk dd_X4_append_0 27 rfl) ?_
    refine V_iadd h (dk dd_X4_append_0 28 rfl) ?_
    refine V_iload_n h (dk dd_X4_append_0 29 rfl) rfl get3 ?_
    refine V_iast h 1 get1 (by omega) set1 (dk dd_X4_append_0 30 rfl) ?_
    refine V_aload_n h (dk dd_X4_append_0 31 rfl) rfl get0 ?_
    refine V_get h fl_X4_9 0 get0 get0 (dk dd_X4_append_0 32 rfl) ?_
    refine V_iload h (dk dd_X4_append_0 33 rfl) get5 ?_
    refine V_iconst h (dk dd_X4_append_0 34 rfl) ?_
    refine V_iadd h (dk dd_X4_append_0 35 rfl) ?_
    refine V_iload h (dk dd_X4_append_0 36 rfl) get4 ?_
    refine V_iast h 1 get1 (by omega) set1 (dk dd_X4_append_0 37 rfl) ?_
    refine V_aload_n h (dk dd_X4_append_0 38 rfl) rfl get0 ?_
    refine V_dup h (dk dd_X4_append_0 39 rfl) rfl ?_
    refine V_get h fl_X4_41 0 get0 get1 (dk dd_X4_append_0 40 rfl) ?_
    refine V_iconst h (dk dd_X4_append_0 41 rfl) ?_
    refine V_iadd h (dk dd_X4_append_0 42 rfl) ?_
    refine V_put h pf_X4_41 0 get0 (Nat.le_of_ble_eq_true rfl) set1 set0 rfl rfl (dk dd_X4_append_0 43 rfl) ?_
    refine V_vret h hF (dk dd_X4_append_0 44 rfl) ⟨Nat.le_of_ble_eq_true rfl, Nat.le_of_ble_eq_true rfl⟩ ?_
    first | exact det_v (by unfold apC apF; rw [if_neg (by omega), if_neg (by omega)]) | exact det_v (by unfold apC apF; rw [if_pos (by omega), if_pos (by omega)]; rfl)
  · refine V_vret h hF (dk dd_X4_append_0 4 rfl) ⟨Nat.le_of_ble_eq_true rfl, Nat.le_of_ble_eq_true rfl⟩ ?_
    first | exact det_v (by unfold apC apF; rw [if_neg (by omega), if_neg (by omega)]) | exact det_v (by unfold apC apF; rw [if_pos (by omega), if_pos (by omega)]; rfl)

set_option maxHeartbeats 4000000 in
set_option maxRecDepth 100000 in
theorem m_X9_readOne (l : Launch) (G : GT) (ad : AdT) (t sg fo fa : Nat) (ln a b o : Int) (ch : Int → Int) (fc : Int) (g : Int → Int) (hc : ChOK ch ln) (hI : TI ln (a, b, o)) (hf : 0 ≤ fc ∧ fc ≤ 12) : CtrS l G ad yX9_readOne cX9_readOne 5 none (rmO 7 0 0 152) [.ref t] [(t, .inr (8, [.ref sg, .ref fo, .int (iZ ln), .int (iZ a), .int (iZ b), .int (iZ o)])), (sg, .inl (G.2 3, 60, .inl (iF ch))), (fo, .inr (3, [.ref fa, .int (iZ fc)])), (fa, .inl (G.2 0, 48, .inl (iF g)))] (Det none [(t, .inr (8, [.ref sg, .ref fo, .int (iZ ln), .int (iZ (roN ch ln (a, b, o)).2.1), .int (iZ (roN ch ln (a, b, o)).2.2.1), .int (iZ (roN ch ln (a, b, o)).2.2.2)])), (sg, .inl (G.2 3, 60, .inl (iF ch))), (fo, .inr (3, [.ref fa, .int (iZ (roF (roN ch ln (a, b, o)) (fc, g)).1)])), (fa, .inl (G.2 0, 48, .inl (iF (roF (roN ch ln (a, b, o)) (fc, g)).2)))]) := by
  refine CtrS.go (own := RX9) (nm := "readOne") (by decide +kernel) rfl rfl [some (.ref t), none, none, none, none] 4 rfl rfl (Nat.le_of_ble_eq_true rfl) ?_
  intro K h hF hSt
  obtain ⟨w, hw⟩ : ∃ w, w = twF ch ln (a, b, o) := ⟨_, rfl⟩
  have a1 := tw_I hc hI
  rw [← hw] at a1
  obtain ⟨x, hx⟩ : ∃ x, x = tnF ch ln 0 27719 0 (tkF ch ln 58 w.2) := ⟨_, rfl⟩
  have a2 := tn_I (lo := 0) (hi := 27719) (neg := 0) hc (tk_I (x := 58) hc (by decide) a1.1)
  rw [← hx] at a2
  obtain ⟨y, hy⟩ : ∃ y, y = tnF ch ln 1 27720 0 (tkF ch ln 43 x.2) := ⟨_, rfl⟩
  have a3 := tn_I (lo := 1) (hi := 27720) (neg := 0) hc (tk_I (x := 43) hc (by decide) a2.1)
  rw [← hy] at a3
  have hl := least_R w.1
  have hm := most_R w.1
  refine V_aload_n h (dk dd_X9_readOne_0 0 rfl) rfl get0 ?_
  refine V_callVs h hSt st1 ci_X9_46 (pk_c get0 (pk_c get1 pk_n)) rfl 0 get0 rfl (m_X9_takeWord l G ad _ _ _ _ _ _ _ _ (by omega) (by omega)) rfl rfl (Nat.le_of_ble_eq_true rfl) (by decide) ⟨rfl, rfl, rfl⟩ (dk dd_X9_readOne_0 1 rfl) sk1 (sm_c set0 (sm_c set1 sm_n)) ?_
  rw [← hw]
  refine V_istore_n h (dk dd_X9_readOne_0 2 rfl) rfl (Nat.le_of_ble_eq_true rfl) rfl set1 ?_
  refine V_aload_n h (dk dd_X9_readOne_0 3 rfl) rfl get0 ?_
  refine V_bipush h (dk dd_X9_readOne_0 4 rfl) (by decide) ?_
  refine V_callV h st2 ci_X9_42 (pk_c get0 (pk_c get1 pk_n)) rfl 0 get0 rfl (m_X9_take l G _ _ _ _ _ _ _ _ _ (by omega) (by omega) (a1.1)) rfl rfl (Nat.le_of_ble_eq_true rfl) (by decide) ⟨rfl, rfl, rfl⟩ (dk dd_X9_readOne_0 5 rfl) sk0 (sm_c set0 (sm_c set1 sm_n)) ?_
  refine V_aload_n h (dk dd_X9_readOne_0 6 rfl) rfl get0 ?_
  refine V_iconst h (dk dd_X9_readOne_0 7 rfl) ?_
  refine V_sipush h (dk dd_X9_readOne_0 8 rfl) (by decide) ?_
  refine V_iconst h (dk dd_X9_readOne_0 9 rfl) ?_
  refine V_callV h st4 ci_X9_50 (pk_c get0 (pk_c get1 pk_n)) rfl 0 get0 rfl (m_X9_takeNumber l G _ _ _ _ _ _ _ _ _ _ _ (by omega) (tk_I hc (by decide) a1.1) (by omega) (by omega) (by omega)) rfl rfl (Nat.le_of_ble_eq_true rfl) (by decide) ⟨rfl, rfl, rfl⟩ (dk dd_X9_readOne_0 10 rfl) sk1 (sm_c set0 (sm_c set1 sm_n)) ?_
  rw [show (tnF ch ln 0 27719 0 ((tkF ch ln 58 (w.2.1, w.2.2.1, w.2.2.2)).1, (tkF ch ln 58 (w.2.1, w.2.2.1, w.2.2.2)).2.1, (tkF ch ln 58 (w.2.1, w.2.2.1, w.2.2.2)).2.2)) = x from hx.symm]
  refine V_istore_n h (dk dd_X9_readOne_0 11 rfl) rfl (Nat.le_of_ble_eq_true rfl) rfl set2 ?_
  refine V_aload_n h (dk dd_X9_readOne_0 12 rfl) rfl get0 ?_
  refine V_bipush h (dk dd_X9_readOne_0 13 rfl) (by decide) ?_
  refine V_callV h st2 ci_X9_42 (pk_c get0 (pk_c get1 pk_n)) rfl 0 get0 rfl (m_X9_take l G _ _ _ _ _ _ _ _ _ (by omega) (by omega) (a2.1)) rfl rfl (Nat.le_of_ble_eq_true rfl) (by decide) ⟨rfl, rfl, rfl⟩ (dk dd_X9_readOne_0 14 rfl) sk0 (sm_c set0 (sm_c set1 sm_n)) ?_
  refine V_aload_n h (dk dd_X9_readOne_0 15 rfl) rfl get0 ?_
  refine V_iconst h (dk dd_X9_readOne_0 16 rfl) ?_
  refine V_sipush h (dk dd_X9_readOne_0 17 rfl) (by decide) ?_
  refine V_iconst h (dk dd_X9_readOne_0 18 rfl) ?_
  refine V_callV h st4 ci_X9_50 (pk_c get0 (pk_c get1 pk_n)) rfl 0 get0 rfl (m_X9_takeNumber l G _ _ _ _ _ _ _ _ _ _ _ (by omega) (tk_I hc (by decide) a2.1) (by omega) (by omega) (by omega)) rfl rfl (Nat.le_of_ble_eq_true rfl) (by decide) ⟨rfl, rfl, rfl⟩ (dk dd_X9_readOne_0 19 rfl) sk1 (sm_c set0 (sm_c set1 sm_n)) ?_
  rw [show (tnF ch ln 1 27720 0 ((tkF ch ln 43 (x.2.1, x.2.2.1, x.2.2.2)).1, (tkF ch ln 43 (x.2.1, x.2.2.1, x.2.2.2)).2.1, (tkF ch ln 43 (x.2.1, x.2.2.1, x.2.2.2)).2.2)) = y from hy.symm]
  refine V_istore_n h (dk dd_X9_readOne_0 20 rfl) rfl (Nat.le_of_ble_eq_true rfl) rfl set3 ?_
  have J71 : ∀ (z : Int) (u : TS), roN ch ln (a, b, o) = ((w.1, x.1, y.1, z), u) ∧ TI ln u → V K (0, 0) 71 [some (.ref t), some (.int (iZ w.1)), some (.int (iZ x.1)), some (.int (iZ y.1)), some (.int (iZ z))] [] [(t, .inr (8, [.ref sg, .ref fo, .int (iZ ln), .int (iZ u.1), .int (iZ u.2.1), .int (iZ u.2.2)])), (sg, .inl (G.2 3, 60, .inl (iF ch))), (fo, .inr (3, [.ref fa, .int (iZ fc)])), (fa, .inl (G.2 0, 48, .inl (iF g)))] := by
    intro z u hJ71
    obtain ⟨hr, hu⟩ := hJ71
    have hu2 := hu.2.1
    have hu3 := hu.2.2
    have hln := hc.1
    refine V_aload_n h (dk dd_X9_readOne_0 38 rfl) rfl get0 ?_
    refine V_get h fl_X9_32 0 get0 get4 (dk dd_X9_readOne_0 39 rfl) ?_
    refine V_if_ne (tgt := 97) h (dk dd_X9_readOne_0 40 rfl) rfl (hu2.R) (fun c75 => ?_) (fun c75 => ?_)
    · refine V_vret h hF (dk dd_X9_readOne_1 1 rfl) ⟨Nat.le_of_ble_eq_true rfl, Nat.le_of_ble_eq_true rfl⟩ ?_
      rw [hr]
      first | exact det_v (by unfold roF; rw [if_pos (show _ ∧ _ from ⟨c75, c82⟩)]) | exact det_v (by unfold roF; rw [if_neg (fun q => by have q1 := q.1; have q2 := q.2; dsimp only at q1 q2; omega)])
    · refine V_aload_n h (dk dd_X9_readOne_0 41 rfl) rfl get0 ?_
      refine V_get h fl_X9_36 0 get0 get5 (dk dd_X9_readOne_0 42 rfl) ?_
      refine V_if_ge (tgt := 97) h (dk dd_X9_readOne_0 43 rfl) rfl (by omega) (fun c82 => ?_) (fun c82 => ?_)
      · refine V_vret h hF (dk dd_X9_readOne_1 1 rfl) ⟨Nat.le_of_ble_eq_true rfl, Nat.le_of_ble_eq_true rfl⟩ ?_
        rw [hr]
        first | exact det_v (by unfold roF; rw [if_pos (show _ ∧ _ from ⟨c75, c82⟩)]) | exact det_v (by unfold roF; rw [if_neg (fun q => by have q1 := q.1; have q2 := q.2; dsimp only at q1 q2; omega)])
      · refine V_aload_n h (dk dd_X9_readOne_0 44 rfl) rfl get0 ?_
        refine V_get h fl_X9_18 0 get0 get1 (dk dd_X9_readOne_0 45 rfl) ?_
        refine V_iload_n h (dk dd_X9_readOne_0 46 rfl) rfl get1 ?_
        refine V_iload_n h (dk dd_X9_readOne_0 47 rfl) rfl get2 ?_
        refine V_iload_n h (dk dd_X9_readOne_0 48 rfl) rfl get3 ?_
        refine V_iload h (dk dd_X9_readOne_0 49 rfl) get4 ?_
        refine V_callV h st5 ci_X9_68 (pk_c get2 (pk_c get3 pk_n)) rfl 2 get2 rfl (m_X4_append_g l G _ _ _ _ _ _ _ _ (by omega)) rfl rfl (Nat.le_of_ble_eq_true rfl) (by decide) ⟨rfl, rfl, rfl⟩ (dk dd_X9_readOne_1 0 rfl) sk0 (sm_c set2 (sm_c set3 sm_n)) ?_
        refine V_vret h hF (dk dd_X9_readOne_1 1 rfl) ⟨Nat.le_of_ble_eq_true rfl, Nat.le_of_ble_eq_true rfl⟩ ?_
        rw [hr]
        first | exact det_v (by unfold roF; rw [if_pos (show _ ∧ _ from ⟨c75, c82⟩)]) | exact det_v (by unfold roF; rw [if_neg (fun q => by have q1 := q.1; have q2 := q.2; dsimp only at q1 q2; omega)])
  refine V_iconst h (dk dd_X9_readOne_0 21 rfl) ?_
  refine V_istore h (dk dd_X9_readOne_0 22 rfl) (Nat.le_of_ble_eq_true rfl) rfl set4 ?_
  refine V_iload_n h (dk dd_X9_readOne_0 23 rfl) rfl get1 ?_
  refine V_callS h st1 ci_X9_54 pk_n rfl (m_X4_hasBy l G _ (by omega)) rfl rfl (Nat.le_of_ble_eq_true rfl) (by decide) ⟨rfl, rfl, rfl⟩ (dk dd_X9_readOne_0 24 rfl) sk1 sm_n ?_
  refine V_ifz_eq (tgt := 71) h (dk dd_X9_readOne_0 25 rfl) rfl (fun c44 => ?_) (fun c44 => ?_)
  · exact J71 0 y.2 ⟨by unfold roN; dsimp only; rw [← hw, ← hx, ← hy, if_neg c44], a3.1⟩
  · refine V_aload_n h (dk dd_X9_readOne_0 26 rfl) rfl get0 ?_
    refine V_bipush h (dk dd_X9_readOne_0 27 rfl) (by decide) ?_
    refine V_callV h st2 ci_X9_42 (pk_c get0 (pk_c get1 pk_n)) rfl 0 get0 rfl (m_X9_take l G _ _ _ _ _ _ _ _ _ (by omega) (by omega) (a3.1)) rfl rfl (Nat.le_of_ble_eq_true rfl) (by decide) ⟨rfl, rfl, rfl⟩ (dk dd_X9_readOne_0 28 rfl) sk0 (sm_c set0 (sm_c set1 sm_n)) ?_
    refine V_aload_n h (dk dd_X9_readOne_0 29 rfl) rfl get0 ?_
    refine V_iload_n h (dk dd_X9_readOne_0 30 rfl) rfl get1 ?_
    refine V_callS h st1 ci_X9_58 pk_n rfl (m_X4_leastBy l G _ (by omega)) rfl rfl (Nat.le_of_ble_eq_true rfl) (by decide) ⟨rfl, rfl, rfl⟩ (dk dd_X9_readOne_0 31 rfl) sk1 sm_n ?_
    refine V_iload_n h (dk dd_X9_readOne_0 32 rfl) rfl get1 ?_
    refine V_callS h st1 ci_X9_62 pk_n rfl (m_X4_mostBy l G _ (by omega)) rfl rfl (Nat.le_of_ble_eq_true rfl) (by decide) ⟨rfl, rfl, rfl⟩ (dk dd_X9_readOne_0 33 rfl) sk1 sm_n ?_
    refine V_iload_n h (dk dd_X9_readOne_0 34 rfl) rfl get1 ?_
    refine V_callS h st1 ci_X9_65 pk_n rfl (m_X4_mayBeNegative l G _ (by omega)) rfl rfl (Nat.le_of_ble_eq_true rfl) (by decide) ⟨rfl, rfl, rfl⟩ (dk dd_X9_readOne_0 35 rfl) sk1 sm_n ?_
    refine V_callV h st4 ci_X9_50 (pk_c get0 (pk_c get1 pk_n)) rfl 0 get0 rfl (m_X9_takeNumber l G _ _ _ _ _ _ _ _ _ _ _ (by omega) (tk_I hc (by decide) a3.1) (by omega) (by omega) (bZ_Z)) rfl rfl (Nat.le_of_ble_eq_true rfl) (by decide) ⟨rfl, rfl, rfl⟩ (dk dd_X9_readOne_0 36 rfl) sk1 (sm_c set0 (sm_c set1 sm_n)) ?_
    refine V_istore h (dk dd_X9_readOne_0 37 rfl) (Nat.le_of_ble_eq_true rfl) rfl set4 ?_
    exact J71 _ (tnF ch ln (leastF w.1) (mostF w.1) (bZ (mayP w.1)) (tkF ch ln 44 y.2)).2 ⟨by unfold roN; dsimp only; rw [← hw, ← hx, ← hy, if_pos c44], (tn_I hc (tk_I hc (by decide) a3.1)).1⟩

set_option maxHeartbeats 4000000 in
set_option maxRecDepth 100000 in
theorem m_X9_errorPlace (l : Launch) (G : GT) (ad : AdT) (t sg fo fa : Nat) (ln a b o : Int) (ch : Int → Int) (fc : Int) (g : Int → Int) (hc : ChOK ch ln) : CtrS l G ad yX9_errorPlace cX9_errorPlace 2 (Option.some FieldType.int) (rmO 8 0 0 176) [.ref t] [(t, .inr (8, [.ref sg, .ref fo, .int (iZ ln), .int (iZ a), .int (iZ b), .int (iZ o)])), (sg, .inl (G.2 3, 60, .inl (iF ch))), (fo, .inr (3, [.ref fa, .int (iZ fc)])), (fa, .inl (G.2 0, 48, .inl (iF g)))] (Det (some (.int (iZ (errV (errX ch ln g).1)))) [(t, .inr (8, [.ref sg, .ref fo, .int (iZ ln), .int (iZ (errX ch ln g).1.1), .int (iZ (errX ch ln g).1.2.1), .int (iZ (errX ch ln g).1.2.2)])), (sg, .inl (G.2 3, 60, .inl (iF ch))), (fo, .inr (3, [.ref fa, .int (iZ (errX ch ln g).2.1)])), (fa, .inl (G.2 0, 48, .inl (iF (errX ch ln g).2.2)))]) := by
  refine CtrS.go (own := RX9) (nm := "errorPlace") (by decide +kernel) rfl rfl [some (.ref t), none] 1 rfl rfl (Nat.le_of_ble_eq_true rfl) ?_
  intro K h hF hSt
  have hc1 := hc.1
  have hI0 : TI ln (0, 0, -1) := ⟨by dsimp only; omega, Or.inl rfl, by dsimp only; omega⟩
  refine V_aload_n h (dk dd_X9_errorPlace_0 0 rfl) rfl get0 ?_
  refine V_get h fl_X9_18 0 get0 get1 (dk dd_X9_errorPlace_0 1 rfl) ?_
  refine V_iconst h (dk dd_X9_errorPlace_0 2 rfl) ?_
  refine V_put h pf_X9_26 2 get2 (Nat.le_of_ble_eq_true rfl) set1 set2 rfl rfl (dk dd_X9_errorPlace_0 3 rfl) ?_
  refine V_aload_n h (dk dd_X9_errorPlace_0 4 rfl) rfl get0 ?_
  refine V_iconst h (dk dd_X9_errorPlace_0 5 rfl) ?_
  refine V_put h pf_X9_29 0 get0 (Nat.le_of_ble_eq_true rfl) set3 set0 rfl rfl (dk dd_X9_errorPlace_0 6 rfl) ?_
  refine V_aload_n h (dk dd_X9_errorPlace_0 7 rfl) rfl get0 ?_
  refine V_iconst h (dk dd_X9_errorPlace_0 8 rfl) ?_
  refine V_put h pf_X9_32 0 get0 (Nat.le_of_ble_eq_true rfl) set4 set0 (Z01.n (by decide)) (Z01.f (by decide)) (dk dd_X9_errorPlace_0 9 rfl) ?_
  refine V_aload_n h (dk dd_X9_errorPlace_0 10 rfl) rfl get0 ?_
  refine V_iconst h (dk dd_X9_errorPlace_0 11 rfl) ?_
  refine V_put h pf_X9_36 0 get0 (Nat.le_of_ble_eq_true rfl) set5 set0 rfl rfl (dk dd_X9_errorPlace_0 12 rfl) ?_
  refine V_aload_n h (dk dd_X9_errorPlace_0 13 rfl) rfl get0 ?_
  refine V_callVs h hSt st1 ci_X9_39 (pk_c get0 (pk_c get1 (pk_c get2 (pk_c get3 pk_n)))) rfl 0 get0 rfl (m_X9_readOne l G ad _ _ _ _ _ _ _ _ _ _ _ (by omega) (hI0) (by omega)) rfl rfl (Nat.le_of_ble_eq_true rfl) (by decide) ⟨rfl, rfl, rfl⟩ (dk dd_X9_errorPlace_0 14 rfl) sk0 (sm_c set0 (sm_c set1 (sm_c set2 (sm_c set3 sm_n)))) ?_
  refine V_iconst h (dk dd_X9_errorPlace_0 15 rfl) ?_
  refine V_istore_n h (dk dd_X9_errorPlace_0 16 rfl) rfl (Nat.le_of_ble_eq_true rfl) rfl set1 ?_
  have L29 : ∀ (fu : Nat) (i : Int) (x : TS × FS), 0 ≤ i ∧ i ≤ 60 ∧ errX ch ln g = errI ch ln (60 - i).toNat x ∧ TI ln x.1 ∧ (0 ≤ x.2.1 ∧ x.2.1 ≤ 12) → (60 - i).toNat < fu → V K (0, 0) 29 [some (.ref t), some (.int (iZ i))] [] [(t, .inr (8, [.ref sg, .ref fo, .int (iZ ln), .int (iZ x.1.1), .int (iZ x.1.2.1), .int (iZ x.1.2.2)])), (sg, .inl (G.2 3, 60, .inl (iF ch))), (fo, .inr (3, [.ref fa, .int (iZ x.2.1)])), (fa, .inl (G.2 0, 48, .inl (iF x.2.2)))] := by
    intro fu
    induction fu with
    | zero => intro i x _ hm; exact absurd hm (Nat.not_lt_zero _)
    | succ fu ih29 =>
      intro i x hI29 hm29
      obtain ⟨hi0, hi1, hx, hT, hFc⟩ := hI29
      have hT1 := hT.1
      have hT2 := hT.2.1
      have hT3 := hT.2.2
      refine V_iload_n h (dk dd_X9_errorPlace_0 17 rfl) rfl get1 ?_
      refine V_bipush h (dk dd_X9_errorPlace_0 18 rfl) (by decide) ?_
      refine V_icmp_ge (tgt := 69) h (dk dd_X9_errorPlace_0 19 rfl) rfl (by omega) (fun c32 => ?_) (fun c32 => ?_)
      · have he : errX ch ln g = x := by rw [hx, show (60 - i).toNat = 0 by omega]; rfl
        refine V_aload_n h (dk dd_X9_errorPlace_0 35 rfl) rfl get0 ?_
        refine V_get h fl_X9_32 0 get0 get4 (dk dd_X9_errorPlace_0 36 rfl) ?_
        refine V_if_eq (tgt := 83) h (dk dd_X9_errorPlace_0 37 rfl) rfl (hT2.R) (fun c73 => ?_) (fun c73 => ?_)
        · refine V_aload_n h (dk dd_X9_errorPlace_0 41 rfl) rfl get0 ?_
          refine V_get h fl_X9_36 0 get0 get5 (dk dd_X9_errorPlace_0 42 rfl) ?_
          refine V_iret h hF (dk dd_X9_errorPlace_0 43 rfl) ⟨Nat.le_of_ble_eq_true rfl, Nat.le_of_ble_eq_true rfl⟩ ?_
          rw [he]
          exact det_i (by unfold errV; rw [if_pos c73]) rfl
        · refine V_aload_n h (dk dd_X9_errorPlace_0 38 rfl) rfl get0 ?_
          refine V_get h fl_X9_29 0 get0 get3 (dk dd_X9_errorPlace_0 39 rfl) ?_
          refine V_goto (tgt := 87) h (dk dd_X9_errorPlace_0 40 rfl) rfl ?_
          refine V_iret h hF (dk dd_X9_errorPlace_0 43 rfl) ⟨Nat.le_of_ble_eq_true rfl, Nat.le_of_ble_eq_true rfl⟩ ?_
          rw [he]
          exact det_i (by unfold errV; rw [if_neg c73]) rfl
      · refine V_aload_n h (dk dd_X9_errorPlace_0 20 rfl) rfl get0 ?_
        refine V_get h fl_X9_32 0 get0 get4 (dk dd_X9_errorPlace_0 21 rfl) ?_
        refine V_if_ne (tgt := 69) h (dk dd_X9_errorPlace_0 22 rfl) rfl (hT2.R) (fun c39 => ?_) (fun c39 => ?_)
        · have he : errX ch ln g = x := by rw [hx, errI_x _ (fun q => c39 q.1)]
          refine V_aload_n h (dk dd_X9_errorPlace_0 35 rfl) rfl get0 ?_
          refine V_get h fl_X9_32 0 get0 get4 (dk dd_X9_errorPlace_0 36 rfl) ?_
          refine V_if_eq (tgt := 83) h (dk dd_X9_errorPlace_0 37 rfl) rfl (hT2.R) (fun c73_2 => ?_) (fun c73_2 => ?_)
          · refine V_aload_n h (dk dd_X9_errorPlace_0 41 rfl) rfl get0 ?_
            refine V_get h fl_X9_36 0 get0 get5 (dk dd_X9_errorPlace_0 42 rfl) ?_
            refine V_iret h hF (dk dd_X9_errorPlace_0 43 rfl) ⟨Nat.le_of_ble_eq_true rfl, Nat.le_of_ble_eq_true rfl⟩ ?_
            rw [he]
            exact det_i (by unfold errV; rw [if_pos c73_2]) rfl
          · refine V_aload_n h (dk dd_X9_errorPlace_0 38 rfl) rfl get0 ?_
            refine V_get h fl_X9_29 0 get0 get3 (dk dd_X9_errorPlace_0 39 rfl) ?_
            refine V_goto (tgt := 87) h (dk dd_X9_errorPlace_0 40 rfl) rfl ?_
            refine V_iret h hF (dk dd_X9_errorPlace_0 43 rfl) ⟨Nat.le_of_ble_eq_true rfl, Nat.le_of_ble_eq_true rfl⟩ ?_
            rw [he]
            exact det_i (by unfold errV; rw [if_neg c73_2]) rfl
        · refine V_aload_n h (dk dd_X9_errorPlace_0 23 rfl) rfl get0 ?_
          refine V_get h fl_X9_29 0 get0 get3 (dk dd_X9_errorPlace_0 24 rfl) ?_
          refine V_aload_n h (dk dd_X9_errorPlace_0 25 rfl) rfl get0 ?_
          refine V_get h fl_X9_22 0 get0 get2 (dk dd_X9_errorPlace_0 26 rfl) ?_
          refine V_icmp_ge (tgt := 69) h (dk dd_X9_errorPlace_0 27 rfl) rfl (by omega) (fun c50 => ?_) (fun c50 => ?_)
          · have he : errX ch ln g = x := by rw [hx, errI_x _ (fun q => absurd q.2 (by omega))]
            refine V_aload_n h (dk dd_X9_errorPlace_0 35 rfl) rfl get0 ?_
            refine V_get h fl_X9_32 0 get0 get4 (dk dd_X9_errorPlace_0 36 rfl) ?_
            refine V_if_eq (tgt := 83) h (dk dd_X9_errorPlace_0 37 rfl) rfl (hT2.R) (fun c73_3 => ?_) (fun c73_3 => ?_)
            · refine V_aload_n h (dk dd_X9_errorPlace_0 41 rfl) rfl get0 ?_
              refine V_get h fl_X9_36 0 get0 get5 (dk dd_X9_errorPlace_0 42 rfl) ?_
              refine V_iret h hF (dk dd_X9_errorPlace_0 43 rfl) ⟨Nat.le_of_ble_eq_true rfl, Nat.le_of_ble_eq_true rfl⟩ ?_
              rw [he]
              exact det_i (by unfold errV; rw [if_pos c73_3]) rfl
            · refine V_aload_n h (dk dd_X9_errorPlace_0 38 rfl) rfl get0 ?_
              refine V_get h fl_X9_29 0 get0 get3 (dk dd_X9_errorPlace_0 39 rfl) ?_
              refine V_goto (tgt := 87) h (dk dd_X9_errorPlace_0 40 rfl) rfl ?_
              refine V_iret h hF (dk dd_X9_errorPlace_0 43 rfl) ⟨Nat.le_of_ble_eq_true rfl, Nat.le_of_ble_eq_true rfl⟩ ?_
              rw [he]
              exact det_i (by unfold errV; rw [if_neg c73_3]) rfl
          · refine V_aload_n h (dk dd_X9_errorPlace_0 28 rfl) rfl get0 ?_
            refine V_bipush h (dk dd_X9_errorPlace_0 29 rfl) (by decide) ?_
            refine V_callV h st2 ci_X9_42 (pk_c get0 (pk_c get1 pk_n)) rfl 0 get0 rfl (m_X9_take l G _ _ _ _ _ _ _ _ _ (by omega) (by omega) (hT)) rfl rfl (Nat.le_of_ble_eq_true rfl) (by decide) ⟨rfl, rfl, rfl⟩ (dk dd_X9_errorPlace_0 30 rfl) sk0 (sm_c set0 (sm_c set1 sm_n)) ?_
            refine V_aload_n h (dk dd_X9_errorPlace_0 31 rfl) rfl get0 ?_
            refine V_callVs h hSt st1 ci_X9_39 (pk_c get0 (pk_c get1 (pk_c get2 (pk_c get3 pk_n)))) rfl 0 get0 rfl (m_X9_readOne l G ad _ _ _ _ _ _ _ _ _ _ _ (by omega) (tk_I hc (by decide) hT) (by omega)) rfl rfl (Nat.le_of_ble_eq_true rfl) (by decide) ⟨rfl, rfl, rfl⟩ (dk dd_X9_errorPlace_0 32 rfl) sk0 (sm_c set0 (sm_c set1 (sm_c set2 (sm_c set3 sm_n)))) ?_
            refine V_iinc h (dk dd_X9_errorPlace_0 33 rfl) get1 (Nat.le_of_ble_eq_true rfl) rfl set1 ?_
            refine V_goto (tgt := 29) h (dk dd_X9_errorPlace_0 34 rfl) rfl ?_
            exact ih29 (i + 1) (reX ch ln (tkF ch ln 59 x.1, x.2)) ⟨by omega, by omega, by rw [hx, show (60 - i).toNat = (60 - (i + 1)).toNat + 1 by omega, errI_e _ ⟨c39, c50⟩], ro_I hc (tk_I hc (by decide) hT), roF_b hFc⟩ (by omega)
  exact L29 _ 0 (reX ch ln ((0, 0, -1), (0, g))) ⟨by omega, by omega, rfl, ro_I hc hI0, roF_b (by dsimp only; omega)⟩ (Nat.lt_succ_self _)

