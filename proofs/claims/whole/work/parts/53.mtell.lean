/-! the reference: what is told of a shot -/
set_option maxHeartbeats 4000000 in
set_option maxRecDepth 100000 in
theorem m_X12_hits (l : Launch) (G : GT) (x : Nat) (q : Nat → Nat) (pm ty ap fo wr rm hm sb be : Int)  : Ctr l G yX12_hits cX12_hits 1 (Option.some FieldType.int) (rmO 0 0 0 0) [.ref x] [(x, .inr (11, [.ref (q 1), .ref (q 2), .int (iZ pm), .ref (q 3), .int (iZ ty), .int (iZ ap), .int (iZ fo), .int (iZ wr), .ref (q 4), .ref (q 5), .ref (q 6), .ref (q 7), .ref (q 8), .ref (q 9), .ref (q 10), .int (iZ rm), .ref (q 11), .ref (q 12), .int (iZ hm), .ref (q 13), .ref (q 14), .ref (q 15), .ref (q 16), .int (iZ sb), .int (iZ be), .ref (q 17), .ref (q 18)]))] (Det (some (.int (iZ hm))) [(x, .inr (11, [.ref (q 1), .ref (q 2), .int (iZ pm), .ref (q 3), .int (iZ ty), .int (iZ ap), .int (iZ fo), .int (iZ wr), .ref (q 4), .ref (q 5), .ref (q 6), .ref (q 7), .ref (q 8), .ref (q 9), .ref (q 10), .int (iZ rm), .ref (q 11), .ref (q 12), .int (iZ hm), .ref (q 13), .ref (q 14), .ref (q 15), .ref (q 16), .int (iZ sb), .int (iZ be), .ref (q 17), .ref (q 18)]))]) := by
  refine Ctr.go (own := RX12) (nm := "hits") (by decide +kernel) rfl rfl [some (.ref x)] 0 rfl rfl (Nat.le_of_ble_eq_true rfl) ?_
  intro K h hF
  refine V_aload_n h (dk dd_X12_hits_0 0 rfl) rfl get0 ?_
  refine V_get h fl_X12_172 0 get0 get18 (dk dd_X12_hits_0 1 rfl) ?_
  refine V_iret h hF (dk dd_X12_hits_0 2 rfl) ⟨Nat.le_of_ble_eq_true rfl, Nat.le_of_ble_eq_true rfl⟩ ?_
  exact det_i (by first | rfl | omega) rfl

set_option maxHeartbeats 4000000 in
set_option maxRecDepth 100000 in
theorem m_X12_rays (l : Launch) (G : GT) (x : Nat) (q : Nat → Nat) (pm ty ap fo wr rm hm sb be : Int)  : Ctr l G yX12_rays cX12_rays 1 (Option.some FieldType.int) (rmO 0 0 0 0) [.ref x] [(x, .inr (11, [.ref (q 1), .ref (q 2), .int (iZ pm), .ref (q 3), .int (iZ ty), .int (iZ ap), .int (iZ fo), .int (iZ wr), .ref (q 4), .ref (q 5), .ref (q 6), .ref (q 7), .ref (q 8), .ref (q 9), .ref (q 10), .int (iZ rm), .ref (q 11), .ref (q 12), .int (iZ hm), .ref (q 13), .ref (q 14), .ref (q 15), .ref (q 16), .int (iZ sb), .int (iZ be), .ref (q 17), .ref (q 18)]))] (Det (some (.int (iZ rm))) [(x, .inr (11, [.ref (q 1), .ref (q 2), .int (iZ pm), .ref (q 3), .int (iZ ty), .int (iZ ap), .int (iZ fo), .int (iZ wr), .ref (q 4), .ref (q 5), .ref (q 6), .ref (q 7), .ref (q 8), .ref (q 9), .ref (q 10), .int (iZ rm), .ref (q 11), .ref (q 12), .int (iZ hm), .ref (q 13), .ref (q 14), .ref (q 15), .ref (q 16), .int (iZ sb), .int (iZ be), .ref (q 17), .ref (q 18)]))]) := by
  refine Ctr.go (own := RX12) (nm := "rays") (by decide +kernel) rfl rfl [some (.ref x)] 0 rfl rfl (Nat.le_of_ble_eq_true rfl) ?_
  intro K h hF
  refine V_aload_n h (dk dd_X12_rays_0 0 rfl) rfl get0 ?_
  refine V_get h fl_X12_169 0 get0 get15 (dk dd_X12_rays_0 1 rfl) ?_
  refine V_iret h hF (dk dd_X12_rays_0 2 rfl) ⟨Nat.le_of_ble_eq_true rfl, Nat.le_of_ble_eq_true rfl⟩ ?_
  exact det_i (by first | rfl | omega) rfl

set_option maxHeartbeats 4000000 in
set_option maxRecDepth 100000 in
theorem m_X12_hit (l : Launch) (G : GT) (x : Nat) (q : Nat → Nat) (pm ty ap fo wr rm hm sb be : Int) (N : Int → Int) (i j : Int) (hh : 0 ≤ hm ∧ hm ≤ 600) (hi : R32 i) (hj : R32 j) : Ctr l G yX12_hit cX12_hit 3 (Option.some FieldType.long) (rmO 1 0 0 22) [.ref x, .int (iZ i), .int (iZ j)] [(x, .inr (11, [.ref (q 1), .ref (q 2), .int (iZ pm), .ref (q 3), .int (iZ ty), .int (iZ ap), .int (iZ fo), .int (iZ wr), .ref (q 4), .ref (q 5), .ref (q 6), .ref (q 7), .ref (q 8), .ref (q 9), .ref (q 10), .int (iZ rm), .ref (q 11), .ref (q 12), .int (iZ hm), .ref (q 13), .ref (q 14), .ref (q 15), .ref (q 16), .int (iZ sb), .int (iZ be), .ref (q 17), .ref (q 18)])), ((q 11), .inl (G.2 1, 3000, .inr (.inl (lF N))))] (Det (some (.long (lZ (numL hm N i j)))) [(x, .inr (11, [.ref (q 1), .ref (q 2), .int (iZ pm), .ref (q 3), .int (iZ ty), .int (iZ ap), .int (iZ fo), .int (iZ wr), .ref (q 4), .ref (q 5), .ref (q 6), .ref (q 7), .ref (q 8), .ref (q 9), .ref (q 10), .int (iZ rm), .ref (q 11), .ref (q 12), .int (iZ hm), .ref (q 13), .ref (q 14), .ref (q 15), .ref (q 16), .int (iZ sb), .int (iZ be), .ref (q 17), .ref (q 18)])), ((q 11), .inl (G.2 1, 3000, .inr (.inl (lF N))))]) := by
  refine Ctr.go (own := RX12) (nm := "hit") (by decide +kernel) rfl rfl [some (.ref x), some (.int (iZ i)), some (.int (iZ j))] 0 rfl rfl (Nat.le_of_ble_eq_true rfl) ?_
  intro K h hF
  refine V_iload_n h (dk dd_X12_hit_0 0 rfl) rfl get1 ?_
  refine V_iconst h (dk dd_X12_hit_0 1 rfl) ?_
  refine V_aload_n h (dk dd_X12_hit_0 2 rfl) rfl get0 ?_
  refine V_get h fl_X12_172 0 get0 get18 (dk dd_X12_hit_0 3 rfl) ?_
  refine V_iconst h (dk dd_X12_hit_0 4 rfl) ?_
  refine V_isub h (dk dd_X12_hit_0 5 rfl) ?_
  refine V_callS h st3 ci_X12_70 pk_n rfl (m_X12_in l G _ _ _ (by omega) (by omega) (by omega)) rfl rfl (Nat.le_of_ble_eq_true rfl) (by decide) ⟨rfl, rfl, rfl⟩ (dk dd_X12_hit_0 6 rfl) sk1 sm_n ?_
  refine V_ifz_eq (tgt := 36) h (dk dd_X12_hit_0 7 rfl) rfl (fun c11 => ?_) (fun c11 => ?_)
  · refine V_ldc2 h q5_35 (dk dd_X12_hit_0 22 rfl) ?_
    refine V_lret h hF (dk dd_X12_hit_0 23 rfl) ⟨Nat.le_of_ble_eq_true rfl, Nat.le_of_ble_eq_true rfl⟩ ?_
    first | exact det_l (by unfold numL; rw [if_pos (by omega)]; exact congrArg N (by omega)) rfl | exact det_l (by unfold numL; rw [if_neg (by omega)]) rfl
  · refine V_iload_n h (dk dd_X12_hit_0 8 rfl) rfl get2 ?_
    refine V_iconst h (dk dd_X12_hit_0 9 rfl) ?_
    refine V_iconst h (dk dd_X12_hit_0 10 rfl) ?_
    refine V_callS h st3 ci_X12_70 pk_n rfl (m_X12_in l G _ _ _ (by omega) (by omega) (by omega)) rfl rfl (Nat.le_of_ble_eq_true rfl) (by decide) ⟨rfl, rfl, rfl⟩ (dk dd_X12_hit_0 11 rfl) sk1 sm_n ?_
    refine V_ifz_eq (tgt := 36) h (dk dd_X12_hit_0 12 rfl) rfl (fun c20 => ?_) (fun c20 => ?_)
    · refine V_ldc2 h q5_35 (dk dd_X12_hit_0 22 rfl) ?_
      refine V_lret h hF (dk dd_X12_hit_0 23 rfl) ⟨Nat.le_of_ble_eq_true rfl, Nat.le_of_ble_eq_true rfl⟩ ?_
      first | exact det_l (by unfold numL; rw [if_pos (by omega)]; exact congrArg N (by omega)) rfl | exact det_l (by unfold numL; rw [if_neg (by omega)]) rfl
    · refine V_aload_n h (dk dd_X12_hit_0 13 rfl) rfl get0 ?_
      refine V_get h fl_X12_42 0 get0 get16 (dk dd_X12_hit_0 14 rfl) ?_
      refine V_iconst h (dk dd_X12_hit_0 15 rfl) ?_
      refine V_iload_n h (dk dd_X12_hit_0 16 rfl) rfl get1 ?_
      refine V_imul h (dk dd_X12_hit_0 17 rfl) ?_
      refine V_iload_n h (dk dd_X12_hit_0 18 rfl) rfl get2 ?_
      refine V_iadd h (dk dd_X12_hit_0 19 rfl) ?_
      refine V_lald h 1 get1 (by omega) (dk dd_X12_hit_0 20 rfl) ?_
      refine V_goto (tgt := 39) h (dk dd_X12_hit_0 21 rfl) rfl ?_
      refine V_lret h hF (dk dd_X12_hit_0 23 rfl) ⟨Nat.le_of_ble_eq_true rfl, Nat.le_of_ble_eq_true rfl⟩ ?_
      first | exact det_l (by unfold numL; rw [if_pos (by omega)]; exact congrArg N (by omega)) rfl | exact det_l (by unfold numL; rw [if_neg (by omega)]) rfl

set_option maxHeartbeats 4000000 in
set_option maxRecDepth 100000 in
theorem m_X12_heardOf (l : Launch) (G : GT) (x : Nat) (q : Nat → Nat) (pm ty ap fo wr rm hm sb be : Int) (my su fi mo : Int → Int) (p w : Int) (hp : 0 ≤ p ∧ p < 12) (hw : 0 ≤ w ∧ w < 4) (hE : ∀ j, 0 ≤ j → j < 12 → R32 (my j) ∧ R32 (mo j)) : Ctr l G yX12_heardOf cX12_heardOf 3 (Option.some FieldType.long) (rmO 0 0 0 0) [.ref x, .int (iZ p), .int (iZ w)] [(x, .inr (11, [.ref (q 1), .ref (q 2), .int (iZ pm), .ref (q 3), .int (iZ ty), .int (iZ ap), .int (iZ fo), .int (iZ wr), .ref (q 4), .ref (q 5), .ref (q 6), .ref (q 7), .ref (q 8), .ref (q 9), .ref (q 10), .int (iZ rm), .ref (q 11), .ref (q 12), .int (iZ hm), .ref (q 13), .ref (q 14), .ref (q 15), .ref (q 16), .int (iZ sb), .int (iZ be), .ref (q 17), .ref (q 18)])), ((q 13), .inl (G.2 0, 12, .inl (iF my))), ((q 14), .inl (G.2 1, 12, .inr (.inl (lF su)))), ((q 15), .inl (G.2 1, 12, .inr (.inl (lF fi)))), ((q 16), .inl (G.2 0, 12, .inl (iF mo)))] (Det (some (.long (lZ (heM my su fi mo p w)))) [(x, .inr (11, [.ref (q 1), .ref (q 2), .int (iZ pm), .ref (q 3), .int (iZ ty), .int (iZ ap), .int (iZ fo), .int (iZ wr), .ref (q 4), .ref (q 5), .ref (q 6), .ref (q 7), .ref (q 8), .ref (q 9), .ref (q 10), .int (iZ rm), .ref (q 11), .ref (q 12), .int (iZ hm), .ref (q 13), .ref (q 14), .ref (q 15), .ref (q 16), .int (iZ sb), .int (iZ be), .ref (q 17), .ref (q 18)])), ((q 13), .inl (G.2 0, 12, .inl (iF my))), ((q 14), .inl (G.2 1, 12, .inr (.inl (lF su)))), ((q 15), .inl (G.2 1, 12, .inr (.inl (lF fi)))), ((q 16), .inl (G.2 0, 12, .inl (iF mo)))]) := by
  refine Ctr.go (own := RX12) (nm := "heardOf") (by decide +kernel) rfl rfl [some (.ref x), some (.int (iZ p)), some (.int (iZ w))] 0 rfl rfl (Nat.le_of_ble_eq_true rfl) ?_
  intro K h hF
  have hEp := hE p hp.1 hp.2
  refine V_iload_n h (dk dd_X12_heardOf_0 0 rfl) rfl get2 ?_
  refine V_iconst h (dk dd_X12_heardOf_0 1 rfl) ?_
  refine V_icmp_ne (tgt := 27) h (dk dd_X12_heardOf_0 2 rfl) rfl (by omega) (fun c2 => ?_) (fun c2 => ?_)
  · refine V_iload_n h (dk dd_X12_heardOf_0 15 rfl) rfl get2 ?_
    refine V_if_ne (tgt := 41) h (dk dd_X12_heardOf_0 16 rfl) rfl (by omega) (fun c28 => ?_) (fun c28 => ?_)
    · refine V_iload_n h (dk dd_X12_heardOf_0 23 rfl) rfl get2 ?_
      refine V_iconst h (dk dd_X12_heardOf_0 24 rfl) ?_
      refine V_icmp_ne (tgt := 55) h (dk dd_X12_heardOf_0 25 rfl) rfl (by omega) (fun c43 => ?_) (fun c43 => ?_)
      · refine V_aload_n h (dk dd_X12_heardOf_0 31 rfl) rfl get0 ?_
        refine V_get h fl_X12_57 0 get0 get22 (dk dd_X12_heardOf_0 32 rfl) ?_
        refine V_iload_n h (dk dd_X12_heardOf_0 33 rfl) rfl get1 ?_
        refine V_iald h 4 get4 (by omega) (dk dd_X12_heardOf_0 34 rfl) ?_
        refine V_i2l h (dk dd_X12_heardOf_0 35 rfl) (hEp.2) ?_
        refine V_lret h hF (dk dd_X12_heardOf_0 36 rfl) ⟨Nat.le_of_ble_eq_true rfl, Nat.le_of_ble_eq_true rfl⟩ ?_
        first
          | exact det_l (by unfold heM; rw [if_pos (by assumption), if_pos (by assumption)]) rfl
          | exact det_l (by unfold heM; rw [if_pos (by assumption), if_neg (by assumption)]) rfl
          | exact det_l (by unfold heM; rw [if_neg (by assumption), if_pos (by assumption)]) rfl
          | exact det_l (by unfold heM; rw [if_neg (by assumption), if_neg (by assumption), if_pos (by assumption)]) rfl
          | exact det_l (by unfold heM; rw [if_neg (by assumption), if_neg (by assumption), if_neg (by assumption)]) rfl
      · refine V_aload_n h (dk dd_X12_heardOf_0 26 rfl) rfl get0 ?_
        refine V_get h fl_X12_51 0 get0 get20 (dk dd_X12_heardOf_0 27 rfl) ?_
        refine V_iload_n h (dk dd_X12_heardOf_0 28 rfl) rfl get1 ?_
        refine V_lald h 2 get2 (by omega) (dk dd_X12_heardOf_0 29 rfl) ?_
        refine V_goto (tgt := 62) h (dk dd_X12_heardOf_0 30 rfl) rfl ?_
        refine V_lret h hF (dk dd_X12_heardOf_0 36 rfl) ⟨Nat.le_of_ble_eq_true rfl, Nat.le_of_ble_eq_true rfl⟩ ?_
        first
          | exact det_l (by unfold heM; rw [if_pos (by assumption), if_pos (by assumption)]) rfl
          | exact det_l (by unfold heM; rw [if_pos (by assumption), if_neg (by assumption)]) rfl
          | exact det_l (by unfold heM; rw [if_neg (by assumption), if_pos (by assumption)]) rfl
          | exact det_l (by unfold heM; rw [if_neg (by assumption), if_neg (by assumption), if_pos (by assumption)]) rfl
          | exact det_l (by unfold heM; rw [if_neg (by assumption), if_neg (by assumption), if_neg (by assumption)]) rfl
    · refine V_aload_n h (dk dd_X12_heardOf_0 17 rfl) rfl get0 ?_
      refine V_get h fl_X12_48 0 get0 get19 (dk dd_X12_heardOf_0 18 rfl) ?_
      refine V_iload_n h (dk dd_X12_heardOf_0 19 rfl) rfl get1 ?_
      refine V_iald h 1 get1 (by omega) (dk dd_X12_heardOf_0 20 rfl) ?_
      refine V_i2l h (dk dd_X12_heardOf_0 21 rfl) (hEp.1) ?_
      refine V_goto (tgt := 62) h (dk dd_X12_heardOf_0 22 rfl) rfl ?_
      refine V_lret h hF (dk dd_X12_heardOf_0 36 rfl) ⟨Nat.le_of_ble_eq_true rfl, Nat.le_of_ble_eq_true rfl⟩ ?_
      first
        | exact det_l (by unfold heM; rw [if_pos (by assumption), if_pos (by assumption)]) rfl
        | exact det_l (by unfold heM; rw [if_pos (by assumption), if_neg (by assumption)]) rfl
        | exact det_l (by unfold heM; rw [if_neg (by assumption), if_pos (by assumption)]) rfl
        | exact det_l (by unfold heM; rw [if_neg (by assumption), if_neg (by assumption), if_pos (by assumption)]) rfl
        | exact det_l (by unfold heM; rw [if_neg (by assumption), if_neg (by assumption), if_neg (by assumption)]) rfl
  · refine V_aload_n h (dk dd_X12_heardOf_0 3 rfl) rfl get0 ?_
    refine V_get h fl_X12_48 0 get0 get19 (dk dd_X12_heardOf_0 4 rfl) ?_
    refine V_iload_n h (dk dd_X12_heardOf_0 5 rfl) rfl get1 ?_
    refine V_iald h 1 get1 (by omega) (dk dd_X12_heardOf_0 6 rfl) ?_
    refine V_if_ne (tgt := 20) h (dk dd_X12_heardOf_0 7 rfl) rfl (hEp.1) (fun c11 => ?_) (fun c11 => ?_)
    · refine V_aload_n h (dk dd_X12_heardOf_0 10 rfl) rfl get0 ?_
      refine V_get h fl_X12_54 0 get0 get21 (dk dd_X12_heardOf_0 11 rfl) ?_
      refine V_iload_n h (dk dd_X12_heardOf_0 12 rfl) rfl get1 ?_
      refine V_lald h 3 get3 (by omega) (dk dd_X12_heardOf_0 13 rfl) ?_
      refine V_lret h hF (dk dd_X12_heardOf_0 14 rfl) ⟨Nat.le_of_ble_eq_true rfl, Nat.le_of_ble_eq_true rfl⟩ ?_
      first
        | exact det_l (by unfold heM; rw [if_pos (by assumption), if_pos (by assumption)]) rfl
        | exact det_l (by unfold heM; rw [if_pos (by assumption), if_neg (by assumption)]) rfl
        | exact det_l (by unfold heM; rw [if_neg (by assumption), if_pos (by assumption)]) rfl
        | exact det_l (by unfold heM; rw [if_neg (by assumption), if_neg (by assumption), if_pos (by assumption)]) rfl
        | exact det_l (by unfold heM; rw [if_neg (by assumption), if_neg (by assumption), if_neg (by assumption)]) rfl
    · refine V_ldc2 h q5_61 (dk dd_X12_heardOf_0 8 rfl) ?_
      refine V_goto (tgt := 26) h (dk dd_X12_heardOf_0 9 rfl) rfl ?_
      refine V_lret h hF (dk dd_X12_heardOf_0 14 rfl) ⟨Nat.le_of_ble_eq_true rfl, Nat.le_of_ble_eq_true rfl⟩ ?_
      first
        | exact det_l (by unfold heM; rw [if_pos (by assumption), if_pos (by assumption)]) rfl
        | exact det_l (by unfold heM; rw [if_pos (by assumption), if_neg (by assumption)]) rfl
        | exact det_l (by unfold heM; rw [if_neg (by assumption), if_pos (by assumption)]) rfl
        | exact det_l (by unfold heM; rw [if_neg (by assumption), if_neg (by assumption), if_pos (by assumption)]) rfl
        | exact det_l (by unfold heM; rw [if_neg (by assumption), if_neg (by assumption), if_neg (by assumption)]) rfl

set_option maxHeartbeats 4000000 in
set_option maxRecDepth 100000 in
theorem m_X12_heard (l : Launch) (G : GT) (x : Nat) (q : Nat → Nat) (pm ty ap fo wr rm hm sb be : Int) (my su fi mo : Int → Int) (p w : Int) (hp : R32 p) (hw : R32 w) (hE : ∀ j, 0 ≤ j → j < 12 → R32 (my j) ∧ R32 (mo j)) : Ctr l G yX12_heard cX12_heard 3 (Option.some FieldType.long) (rmO 1 0 0 22) [.ref x, .int (iZ p), .int (iZ w)] [(x, .inr (11, [.ref (q 1), .ref (q 2), .int (iZ pm), .ref (q 3), .int (iZ ty), .int (iZ ap), .int (iZ fo), .int (iZ wr), .ref (q 4), .ref (q 5), .ref (q 6), .ref (q 7), .ref (q 8), .ref (q 9), .ref (q 10), .int (iZ rm), .ref (q 11), .ref (q 12), .int (iZ hm), .ref (q 13), .ref (q 14), .ref (q 15), .ref (q 16), .int (iZ sb), .int (iZ be), .ref (q 17), .ref (q 18)])), ((q 13), .inl (G.2 0, 12, .inl (iF my))), ((q 14), .inl (G.2 1, 12, .inr (.inl (lF su)))), ((q 15), .inl (G.2 1, 12, .inr (.inl (lF fi)))), ((q 16), .inl (G.2 0, 12, .inl (iF mo)))] (Det (some (.long (lZ (heL my su fi mo p w)))) [(x, .inr (11, [.ref (q 1), .ref (q 2), .int (iZ pm), .ref (q 3), .int (iZ ty), .int (iZ ap), .int (iZ fo), .int (iZ wr), .ref (q 4), .ref (q 5), .ref (q 6), .ref (q 7), .ref (q 8), .ref (q 9), .ref (q 10), .int (iZ rm), .ref (q 11), .ref (q 12), .int (iZ hm), .ref (q 13), .ref (q 14), .ref (q 15), .ref (q 16), .int (iZ sb), .int (iZ be), .ref (q 17), .ref (q 18)])), ((q 13), .inl (G.2 0, 12, .inl (iF my))), ((q 14), .inl (G.2 1, 12, .inr (.inl (lF su)))), ((q 15), .inl (G.2 1, 12, .inr (.inl (lF fi)))), ((q 16), .inl (G.2 0, 12, .inl (iF mo)))]) := by
  refine Ctr.go (own := RX12) (nm := "heard") (by decide +kernel) rfl rfl [some (.ref x), some (.int (iZ p)), some (.int (iZ w))] 0 rfl rfl (Nat.le_of_ble_eq_true rfl) ?_
  intro K h hF
  refine V_iload_n h (dk dd_X12_heard_0 0 rfl) rfl get1 ?_
  refine V_iconst h (dk dd_X12_heard_0 1 rfl) ?_
  refine V_bipush h (dk dd_X12_heard_0 2 rfl) (by decide) ?_
  refine V_callS h st3 ci_X12_70 pk_n rfl (m_X12_in l G _ _ _ (by omega) (by omega) (by omega)) rfl rfl (Nat.le_of_ble_eq_true rfl) (by decide) ⟨rfl, rfl, rfl⟩ (dk dd_X12_heard_0 3 rfl) sk1 sm_n ?_
  refine V_ifz_eq (tgt := 28) h (dk dd_X12_heard_0 4 rfl) rfl (fun c7 => ?_) (fun c7 => ?_)
  · refine V_ldc2 h q5_35 (dk dd_X12_heard_0 15 rfl) ?_
    refine V_lret h hF (dk dd_X12_heard_0 16 rfl) ⟨Nat.le_of_ble_eq_true rfl, Nat.le_of_ble_eq_true rfl⟩ ?_
    first | exact det_l (by unfold heL; rw [if_pos (by omega)]) rfl | exact det_l (by unfold heL; rw [if_neg (by omega)]) rfl
  · refine V_iload_n h (dk dd_X12_heard_0 5 rfl) rfl get2 ?_
    refine V_iconst h (dk dd_X12_heard_0 6 rfl) ?_
    refine V_iconst h (dk dd_X12_heard_0 7 rfl) ?_
    refine V_callS h st3 ci_X12_70 pk_n rfl (m_X12_in l G _ _ _ (by omega) (by omega) (by omega)) rfl rfl (Nat.le_of_ble_eq_true rfl) (by decide) ⟨rfl, rfl, rfl⟩ (dk dd_X12_heard_0 8 rfl) sk1 sm_n ?_
    refine V_ifz_eq (tgt := 28) h (dk dd_X12_heard_0 9 rfl) rfl (fun c16 => ?_) (fun c16 => ?_)
    · refine V_ldc2 h q5_35 (dk dd_X12_heard_0 15 rfl) ?_
      refine V_lret h hF (dk dd_X12_heard_0 16 rfl) ⟨Nat.le_of_ble_eq_true rfl, Nat.le_of_ble_eq_true rfl⟩ ?_
      first | exact det_l (by unfold heL; rw [if_pos (by omega)]) rfl | exact det_l (by unfold heL; rw [if_neg (by omega)]) rfl
    · refine V_aload_n h (dk dd_X12_heard_0 10 rfl) rfl get0 ?_
      refine V_iload_n h (dk dd_X12_heard_0 11 rfl) rfl get1 ?_
      refine V_iload_n h (dk dd_X12_heard_0 12 rfl) rfl get2 ?_
      refine V_callV h st3 ci_X12_215 (pk_c get0 (pk_c get1 (pk_c get2 (pk_c get3 (pk_c get4 pk_n))))) rfl 0 get0 rfl (m_X12_heardOf l G _ _ _ _ _ _ _ _ _ _ _ _ _ _ _ _ _ (by omega) (by omega) (hE)) rfl rfl (Nat.le_of_ble_eq_true rfl) (by decide) ⟨rfl, rfl, rfl⟩ (dk dd_X12_heard_0 13 rfl) sk1 (sm_c set0 (sm_c set1 (sm_c set2 (sm_c set3 (sm_c set4 sm_n))))) ?_
      refine V_goto (tgt := 31) h (dk dd_X12_heard_0 14 rfl) rfl ?_
      refine V_lret h hF (dk dd_X12_heard_0 16 rfl) ⟨Nat.le_of_ble_eq_true rfl, Nat.le_of_ble_eq_true rfl⟩ ?_
      first | exact det_l (by unfold heL; rw [if_pos (by omega)]) rfl | exact det_l (by unfold heL; rw [if_neg (by omega)]) rfl

set_option maxHeartbeats 4000000 in
set_option maxRecDepth 100000 in
theorem m_X12_echo (l : Launch) (G : GT) (x : Nat) (q : Nat → Nat) (pm ty ap fo wr rm hm sb be : Int) (ie : Int → Int) (i : Int) (hh : 0 ≤ hm ∧ hm ≤ 600) (hi : R32 i) (hI : ∀ j, 0 ≤ j → j < hm → Z01 (ie j)) : Ctr l G yX12_echo cX12_echo 4 (Option.some FieldType.int) (rmO 0 0 0 0) [.ref x, .int (iZ i)] [(x, .inr (11, [.ref (q 1), .ref (q 2), .int (iZ pm), .ref (q 3), .int (iZ ty), .int (iZ ap), .int (iZ fo), .int (iZ wr), .ref (q 4), .ref (q 5), .ref (q 6), .ref (q 7), .ref (q 8), .ref (q 9), .ref (q 10), .int (iZ rm), .ref (q 11), .ref (q 12), .int (iZ hm), .ref (q 13), .ref (q 14), .ref (q 15), .ref (q 16), .int (iZ sb), .int (iZ be), .ref (q 17), .ref (q 18)])), ((q 12), .inl (G.2 2, 600, .inl (iF ie)))] (Det (some (.int (iZ (if i < 0 then -100001 else ecM ie hm.toNat 0 i)))) [(x, .inr (11, [.ref (q 1), .ref (q 2), .int (iZ pm), .ref (q 3), .int (iZ ty), .int (iZ ap), .int (iZ fo), .int (iZ wr), .ref (q 4), .ref (q 5), .ref (q 6), .ref (q 7), .ref (q 8), .ref (q 9), .ref (q 10), .int (iZ rm), .ref (q 11), .ref (q 12), .int (iZ hm), .ref (q 13), .ref (q 14), .ref (q 15), .ref (q 16), .int (iZ sb), .int (iZ be), .ref (q 17), .ref (q 18)])), ((q 12), .inl (G.2 2, 600, .inl (iF ie)))]) := by
  refine Ctr.go (own := RX12) (nm := "echo") (by decide +kernel) rfl rfl [some (.ref x), some (.int (iZ i)), none, none] 2 rfl rfl (Nat.le_of_ble_eq_true rfl) ?_
  intro K h hF
  refine V_iload_n h (dk dd_X12_echo_0 0 rfl) rfl get1 ?_
  refine V_if_ge (tgt := 7) h (dk dd_X12_echo_0 1 rfl) rfl (by omega) (fun c1 => ?_) (fun c1 => ?_)
  · refine V_iload_n h (dk dd_X12_echo_0 4 rfl) rfl get1 ?_
    refine V_istore_n h (dk dd_X12_echo_0 5 rfl) rfl (Nat.le_of_ble_eq_true rfl) rfl set2 ?_
    refine V_iconst h (dk dd_X12_echo_0 6 rfl) ?_
    refine V_istore_n h (dk dd_X12_echo_0 7 rfl) rfl (Nat.le_of_ble_eq_true rfl) rfl set3 ?_
    have L11 : ∀ (fu : Nat) (k t : Int), 0 ≤ k ∧ k ≤ hm ∧ (0 ≤ t ∧ t ≤ i) ∧ ecM ie hm.toNat 0 i = ecM ie (hm - k).toNat k t → (hm - k).toNat < fu → V K (0, 0) 11 [some (.ref x), some (.int (iZ i)), some (.int (iZ t)), some (.int (iZ k))] [] [(x, .inr (11, [.ref (q 1), .ref (q 2), .int (iZ pm), .ref (q 3), .int (iZ ty), .int (iZ ap), .int (iZ fo), .int (iZ wr), .ref (q 4), .ref (q 5), .ref (q 6), .ref (q 7), .ref (q 8), .ref (q 9), .ref (q 10), .int (iZ rm), .ref (q 11), .ref (q 12), .int (iZ hm), .ref (q 13), .ref (q 14), .ref (q 15), .ref (q 16), .int (iZ sb), .int (iZ be), .ref (q 17), .ref (q 18)])), ((q 12), .inl (G.2 2, 600, .inl (iF ie)))] := by
      intro fu
      induction fu with
      | zero => intro k t _ hm; exact absurd hm (Nat.not_lt_zero _)
      | succ fu ih11 =>
        intro k t hI11 hm11
        obtain ⟨hk0, hk1, ht, he⟩ := hI11
        refine V_iload_n h (dk dd_X12_echo_0 8 rfl) rfl get3 ?_
        refine V_aload_n h (dk dd_X12_echo_0 9 rfl) rfl get0 ?_
        refine V_get h fl_X12_172 0 get0 get18 (dk dd_X12_echo_0 10 rfl) ?_
        refine V_icmp_ge (tgt := 43) h (dk dd_X12_echo_0 11 rfl) rfl (by omega) (fun c16 => ?_) (fun c16 => ?_)
        · refine V_ldc h q4_230 (dk dd_X12_echo_0 24 rfl) ?_
          refine V_iret h hF (dk dd_X12_echo_0 25 rfl) ⟨Nat.le_of_ble_eq_true rfl, Nat.le_of_ble_eq_true rfl⟩ ?_
          exact det_i (by rw [if_neg (by omega), he, show (hm - k).toNat = 0 by omega]; rfl) rfl
        · refine V_aload_n h (dk dd_X12_echo_0 12 rfl) rfl get0 ?_
          refine V_get h fl_X12_45 0 get0 get17 (dk dd_X12_echo_0 13 rfl) ?_
          refine V_iload_n h (dk dd_X12_echo_0 14 rfl) rfl get3 ?_
          refine V_zald h 1 get1 (by omega) (dk dd_X12_echo_0 15 rfl) ?_
          refine V_if_eq (tgt := 37) h (dk dd_X12_echo_0 16 rfl) rfl ((hI k hk0 (by omega)).R) (fun c25 => ?_) (fun c25 => ?_)
          · refine V_iinc h (dk dd_X12_echo_0 22 rfl) get3 (Nat.le_of_ble_eq_true rfl) rfl set3 ?_
            refine V_goto (tgt := 11) h (dk dd_X12_echo_0 23 rfl) rfl ?_
            exact ih11 _ _ ⟨by omega, by omega, by omega, by rw [he, show (hm - k).toNat = (hm - (k + 1)).toNat + 1 by omega, ecM_a _ c25]⟩ (by omega)
          · refine V_iload_n h (dk dd_X12_echo_0 17 rfl) rfl get2 ?_
            refine V_if_ne (tgt := 34) h (dk dd_X12_echo_0 18 rfl) rfl (by omega) (fun c29 => ?_) (fun c29 => ?_)
            · refine V_iinc h (dk dd_X12_echo_0 21 rfl) get2 (Nat.le_of_ble_eq_true rfl) rfl set2 ?_
              refine V_iinc h (dk dd_X12_echo_0 22 rfl) get3 (Nat.le_of_ble_eq_true rfl) rfl set3 ?_
              refine V_goto (tgt := 11) h (dk dd_X12_echo_0 23 rfl) rfl ?_
              exact ih11 _ _ ⟨by omega, by omega, by omega, by rw [he, show (hm - k).toNat = (hm - (k + 1)).toNat + 1 by omega, ecM_c _ c25 c29]; rfl⟩ (by omega)
            · refine V_iload_n h (dk dd_X12_echo_0 19 rfl) rfl get3 ?_
              refine V_iret h hF (dk dd_X12_echo_0 20 rfl) ⟨Nat.le_of_ble_eq_true rfl, Nat.le_of_ble_eq_true rfl⟩ ?_
              exact det_i (by rw [if_neg (by omega), he, show (hm - k).toNat = (hm - (k + 1)).toNat + 1 by omega, ecM_b _ c25 c29]) rfl
    exact L11 _ 0 i ⟨by omega, by omega, by omega, by rw [Int.sub_zero]⟩ (Nat.lt_succ_self _)
  · refine V_ldc h q4_104 (dk dd_X12_echo_0 2 rfl) ?_
    refine V_iret h hF (dk dd_X12_echo_0 3 rfl) ⟨Nat.le_of_ble_eq_true rfl, Nat.le_of_ble_eq_true rfl⟩ ?_
    exact det_i (by rw [if_pos (by omega)]) rfl

set_option maxHeartbeats 4000000 in
set_option maxRecDepth 100000 in
theorem m_X12_covered (l : Launch) (G : GT) (x : Nat) (q : Nat → Nat) (pm ty ap fo wr rm hm sb be : Int) (N g : Int → Int) (hh : 0 ≤ hm ∧ hm ≤ 600) (hP : ∀ j, 0 ≤ j → j < hm → 0 ≤ N (j * 5 + 1) ∧ N (j * 5 + 1) < 27720) : Ctr l G yX12_covered cX12_covered 4 (Option.some FieldType.int) (rmO 0 0 0 0) [.ref x] [(x, .inr (11, [.ref (q 1), .ref (q 2), .int (iZ pm), .ref (q 3), .int (iZ ty), .int (iZ ap), .int (iZ fo), .int (iZ wr), .ref (q 4), .ref (q 5), .ref (q 6), .ref (q 7), .ref (q 8), .ref (q 9), .ref (q 10), .int (iZ rm), .ref (q 11), .ref (q 12), .int (iZ hm), .ref (q 13), .ref (q 14), .ref (q 15), .ref (q 16), .int (iZ sb), .int (iZ be), .ref (q 17), .ref (q 18)])), ((q 11), .inl (G.2 1, 3000, .inr (.inl (lF N)))), ((q 17), .inl (G.2 2, 27720, .inl (iF g)))] (Det (some (.int (iZ (cvS N (clr0 g 27720) hm.toNat).1))) [(x, .inr (11, [.ref (q 1), .ref (q 2), .int (iZ pm), .ref (q 3), .int (iZ ty), .int (iZ ap), .int (iZ fo), .int (iZ wr), .ref (q 4), .ref (q 5), .ref (q 6), .ref (q 7), .ref (q 8), .ref (q 9), .ref (q 10), .int (iZ rm), .ref (q 11), .ref (q 12), .int (iZ hm), .ref (q 13), .ref (q 14), .ref (q 15), .ref (q 16), .int (iZ sb), .int (iZ be), .ref (q 17), .ref (q 18)])), ((q 11), .inl (G.2 1, 3000, .inr (.inl (lF N)))), ((q 17), .inl (G.2 2, 27720, .inl (iF (cvS N (clr0 g 27720) hm.toNat).2)))]) := by
  refine Ctr.go (own := RX12) (nm := "covered") (by decide +kernel) rfl rfl [some (.ref x), none, none, none] 3 rfl rfl (Nat.le_of_ble_eq_true rfl) ?_
  intro K h hF
  refine V_iconst h (dk dd_X12_covered_0 0 rfl) ?_
  refine V_istore_n h (dk dd_X12_covered_0 1 rfl) rfl (Nat.le_of_ble_eq_true rfl) rfl set1 ?_
  have L2 : ∀ (fu : Nat) (i : Int), 0 ≤ i ∧ i ≤ 27720 → (27720 - i).toNat < fu → V K (0, 0) 2 [some (.ref x), some (.int (iZ i)), none, none] [] [(x, .inr (11, [.ref (q 1), .ref (q 2), .int (iZ pm), .ref (q 3), .int (iZ ty), .int (iZ ap), .int (iZ fo), .int (iZ wr), .ref (q 4), .ref (q 5), .ref (q 6), .ref (q 7), .ref (q 8), .ref (q 9), .ref (q 10), .int (iZ rm), .ref (q 11), .ref (q 12), .int (iZ hm), .ref (q 13), .ref (q 14), .ref (q 15), .ref (q 16), .int (iZ sb), .int (iZ be), .ref (q 17), .ref (q 18)])), ((q 11), .inl (G.2 1, 3000, .inr (.inl (lF N)))), ((q 17), .inl (G.2 2, 27720, .inl (iF (clr0 g i))))] := by
    intro fu
    induction fu with
    | zero => intro i _ hm; exact absurd hm (Nat.not_lt_zero _)
    | succ fu ih2 =>
      intro i hI2 hm2
      refine V_iload_n h (dk dd_X12_covered_0 2 rfl) rfl get1 ?_
      refine V_sipush h (dk dd_X12_covered_0 3 rfl) (by decide) ?_
      refine V_icmp_ge (tgt := 22) h (dk dd_X12_covered_0 4 rfl) rfl (by omega) (fun c6 => ?_) (fun c6 => ?_)
      · have e : i = 27720 := by omega
        subst e
        refine V_iconst h (dk dd_X12_covered_0 12 rfl) ?_
        refine V_istore_n h (dk dd_X12_covered_0 13 rfl) rfl (Nat.le_of_ble_eq_true rfl) rfl set1 ?_
        refine V_iconst h (dk dd_X12_covered_0 14 rfl) ?_
        refine V_istore_n h (dk dd_X12_covered_0 15 rfl) rfl (Nat.le_of_ble_eq_true rfl) rfl set2 ?_
        have L26 : ∀ (fu : Nat) (k c : Int) (g1 : Int → Int), 0 ≤ k ∧ k ≤ hm ∧ (c, g1) = cvS N (clr0 g 27720) k.toNat → (hm - k).toNat < fu → V K (0, 0) 26 [some (.ref x), some (.int (iZ c)), some (.int (iZ k)), none] [] [(x, .inr (11, [.ref (q 1), .ref (q 2), .int (iZ pm), .ref (q 3), .int (iZ ty), .int (iZ ap), .int (iZ fo), .int (iZ wr), .ref (q 4), .ref (q 5), .ref (q 6), .ref (q 7), .ref (q 8), .ref (q 9), .ref (q 10), .int (iZ rm), .ref (q 11), .ref (q 12), .int (iZ hm), .ref (q 13), .ref (q 14), .ref (q 15), .ref (q 16), .int (iZ sb), .int (iZ be), .ref (q 17), .ref (q 18)])), ((q 11), .inl (G.2 1, 3000, .inr (.inl (lF N)))), ((q 17), .inl (G.2 2, 27720, .inl (iF g1)))] := by
          intro fu
          induction fu with
          | zero => intro k c g1 _ hm; exact absurd hm (Nat.not_lt_zero _)
          | succ fu ih26 =>
            intro k c g1 hI26 hm26
            obtain ⟨hk0, hk1, he⟩ := hI26
            have hZ := cvS_g (N := N) (clr_Z (g := g)) k.toNat
            rw [← he] at hZ
            dsimp only at hZ
            refine V_iload_n h (dk dd_X12_covered_0 16 rfl) rfl get2 ?_
            refine V_aload_n h (dk dd_X12_covered_0 17 rfl) rfl get0 ?_
            refine V_get h fl_X12_172 0 get0 get18 (dk dd_X12_covered_0 18 rfl) ?_
            refine V_icmp_ge (tgt := 76) h (dk dd_X12_covered_0 19 rfl) rfl (by omega) (fun c31 => ?_) (fun c31 => ?_)
            · refine V_iload_n h (dk dd_X12_covered_0 48 rfl) rfl get1 ?_
              refine V_iret h hF (dk dd_X12_covered_0 49 rfl) ⟨Nat.le_of_ble_eq_true rfl, Nat.le_of_ble_eq_true rfl⟩ ?_
              have e : k = hm := by omega
              subst e
              rw [← he]
              exact det_i rfl rfl
            · have hp := hP k hk0 (by omega)
              refine V_aload_n h (dk dd_X12_covered_0 20 rfl) rfl get0 ?_
              refine V_get h fl_X12_42 0 get0 get16 (dk dd_X12_covered_0 21 rfl) ?_
              refine V_iconst h (dk dd_X12_covered_0 22 rfl) ?_
              refine V_iload_n h (dk dd_X12_covered_0 23 rfl) rfl get2 ?_
              refine V_imul h (dk dd_X12_covered_0 24 rfl) ?_
              refine V_iconst h (dk dd_X12_covered_0 25 rfl) ?_
              refine V_iadd h (dk dd_X12_covered_0 26 rfl) ?_
              rw [show 5 * k + 1 = k * 5 + 1 by omega]
              refine V_lald h 1 get1 (by omega) (dk dd_X12_covered_0 27 rfl) ?_
              refine V_l2i h (dk dd_X12_covered_0 28 rfl) ?_
              refine V_istore_n h (dk dd_X12_covered_0 29 rfl) rfl (Nat.le_of_ble_eq_true rfl) rfl set3 ?_
              refine V_iload_n h (dk dd_X12_covered_0 30 rfl) rfl get1 ?_
              refine V_aload_n h (dk dd_X12_covered_0 31 rfl) rfl get0 ?_
              refine V_get h fl_X12_60 0 get0 get25 (dk dd_X12_covered_0 32 rfl) ?_
              refine V_iload_n h (dk dd_X12_covered_0 33 rfl) rfl get3 ?_
              refine V_zald h 2 get2 (by omega) (dk dd_X12_covered_0 34 rfl) ?_
              refine V_if_eq (tgt := 60) h (dk dd_X12_covered_0 35 rfl) rfl ((hZ _ hp.1 hp.2).R) (fun c53 => ?_) (fun c53 => ?_)
              · refine V_iconst h (dk dd_X12_covered_0 38 rfl) ?_
                refine V_iadd h (dk dd_X12_covered_0 39 rfl) ?_
                refine V_istore_n h (dk dd_X12_covered_0 40 rfl) rfl (Nat.le_of_ble_eq_true rfl) rfl set1 ?_
                refine V_aload_n h (dk dd_X12_covered_0 41 rfl) rfl get0 ?_
                refine V_get h fl_X12_60 0 get0 get25 (dk dd_X12_covered_0 42 rfl) ?_
                refine V_iload_n h (dk dd_X12_covered_0 43 rfl) rfl get3 ?_
                refine V_iconst h (dk dd_X12_covered_0 44 rfl) ?_
                refine V_zast h 2 get2 (by omega) (by decide) set2 (dk dd_X12_covered_0 45 rfl) ?_
                refine V_iinc h (dk dd_X12_covered_0 46 rfl) get2 (Nat.le_of_ble_eq_true rfl) rfl set2 ?_
                refine V_goto (tgt := 26) h (dk dd_X12_covered_0 47 rfl) rfl ?_
                refine V_wk (lw_s (lw_s (lw_s (lw_o lw_n)))) ?_
                exact ih26 (k + 1) _ _ ⟨by omega, by omega, by rw [cvS_s hk0, ← he]; dsimp only; rw [if_pos (by omega)]⟩ (by omega)
              · refine V_iconst h (dk dd_X12_covered_0 36 rfl) ?_
                refine V_goto (tgt := 61) h (dk dd_X12_covered_0 37 rfl) rfl ?_
                refine V_iadd h (dk dd_X12_covered_0 39 rfl) ?_
                refine V_istore_n h (dk dd_X12_covered_0 40 rfl) rfl (Nat.le_of_ble_eq_true rfl) rfl set1 ?_
                refine V_aload_n h (dk dd_X12_covered_0 41 rfl) rfl get0 ?_
                refine V_get h fl_X12_60 0 get0 get25 (dk dd_X12_covered_0 42 rfl) ?_
                refine V_iload_n h (dk dd_X12_covered_0 43 rfl) rfl get3 ?_
                refine V_iconst h (dk dd_X12_covered_0 44 rfl) ?_
                refine V_zast h 2 get2 (by omega) (by decide) set2 (dk dd_X12_covered_0 45 rfl) ?_
                refine V_iinc h (dk dd_X12_covered_0 46 rfl) get2 (Nat.le_of_ble_eq_true rfl) rfl set2 ?_
                refine V_goto (tgt := 26) h (dk dd_X12_covered_0 47 rfl) rfl ?_
                refine V_wk (lw_s (lw_s (lw_s (lw_o lw_n)))) ?_
                exact ih26 (k + 1) _ _ ⟨by omega, by omega, by rw [cvS_s hk0, ← he]; dsimp only; rw [if_neg (by omega)]⟩ (by omega)
        exact L26 _ 0 0 _ ⟨by omega, by omega, rfl⟩ (Nat.lt_succ_self _)
      · refine V_aload_n h (dk dd_X12_covered_0 5 rfl) rfl get0 ?_
        refine V_get h fl_X12_60 0 get0 get25 (dk dd_X12_covered_0 6 rfl) ?_
        refine V_iload_n h (dk dd_X12_covered_0 7 rfl) rfl get1 ?_
        refine V_iconst h (dk dd_X12_covered_0 8 rfl) ?_
        refine V_zast h 2 get2 (by omega) (by decide) set2 (dk dd_X12_covered_0 9 rfl) ?_
        rw [clr0_s hI2.1]
        refine V_iinc h (dk dd_X12_covered_0 10 rfl) get1 (Nat.le_of_ble_eq_true rfl) rfl set1 ?_
        refine V_goto (tgt := 2) h (dk dd_X12_covered_0 11 rfl) rfl ?_
        exact ih2 _ (by omega) (by omega)
  have e0 := L2 _ 0 (by omega) (Nat.lt_succ_self _)
  rw [clr0_0] at e0
  exact e0

set_option maxHeartbeats 4000000 in
set_option maxRecDepth 100000 in
theorem m_X12_coverage (l : Launch) (G : GT) (x : Nat) (q : Nat → Nat) (pm ty ap fo wr rm hm sb be : Int) (N g : Int → Int) (hh : 0 ≤ hm ∧ hm ≤ 600) (hP : ∀ j, 0 ≤ j → j < hm → 0 ≤ N (j * 5 + 1) ∧ N (j * 5 + 1) < 27720) : Ctr l G yX12_coverage cX12_coverage 1 (Option.some FieldType.int) (rmO 1 0 0 23) [.ref x] [(x, .inr (11, [.ref (q 1), .ref (q 2), .int (iZ pm), .ref (q 3), .int (iZ ty), .int (iZ ap), .int (iZ fo), .int (iZ wr), .ref (q 4), .ref (q 5), .ref (q 6), .ref (q 7), .ref (q 8), .ref (q 9), .ref (q 10), .int (iZ rm), .ref (q 11), .ref (q 12), .int (iZ hm), .ref (q 13), .ref (q 14), .ref (q 15), .ref (q 16), .int (iZ sb), .int (iZ be), .ref (q 17), .ref (q 18)])), ((q 11), .inl (G.2 1, 3000, .inr (.inl (lF N)))), ((q 17), .inl (G.2 2, 27720, .inl (iF g)))] (Det (some (.int (iZ (cvS N (clr0 g 27720) hm.toNat).1))) [(x, .inr (11, [.ref (q 1), .ref (q 2), .int (iZ pm), .ref (q 3), .int (iZ ty), .int (iZ ap), .int (iZ fo), .int (iZ wr), .ref (q 4), .ref (q 5), .ref (q 6), .ref (q 7), .ref (q 8), .ref (q 9), .ref (q 10), .int (iZ rm), .ref (q 11), .ref (q 12), .int (iZ hm), .ref (q 13), .ref (q 14), .ref (q 15), .ref (q 16), .int (iZ sb), .int (iZ be), .ref (q 17), .ref (q 18)])), ((q 11), .inl (G.2 1, 3000, .inr (.inl (lF N)))), ((q 17), .inl (G.2 2, 27720, .inl (iF (cvS N (clr0 g 27720) hm.toNat).2)))]) := by
  refine Ctr.go (own := RX12) (nm := "coverage") (by decide +kernel) rfl rfl [some (.ref x)] 0 rfl rfl (Nat.le_of_ble_eq_true rfl) ?_
  intro K h hF
  refine V_aload_n h (dk dd_X12_coverage_0 0 rfl) rfl get0 ?_
  refine V_callV h st1 ci_X12_209 (pk_c get0 (pk_c get1 (pk_c get2 pk_n))) rfl 0 get0 rfl (m_X12_covered l G _ _ _ _ _ _ _ _ _ _ _ _ _ (by omega) (hP)) rfl rfl (Nat.le_of_ble_eq_true rfl) (by decide) ⟨rfl, rfl, rfl⟩ (dk dd_X12_coverage_0 1 rfl) sk1 (sm_c set0 (sm_c set1 (sm_c set2 sm_n))) ?_
  refine V_iret h hF (dk dd_X12_coverage_0 2 rfl) ⟨Nat.le_of_ble_eq_true rfl, Nat.le_of_ble_eq_true rfl⟩ ?_
  exact det_i (by first | rfl | omega) rfl

set_option maxHeartbeats 4000000 in
set_option maxRecDepth 100000 in
theorem m_X12_gap (l : Launch) (G : GT) (x : Nat) (q : Nat → Nat) (pm ty ap fo wr rm hm sb be : Int) (N g : Int → Int) (hh : 0 ≤ hm ∧ hm ≤ 600) (hP : ∀ j, 0 ≤ j → j < hm → 0 ≤ N (j * 5 + 1) ∧ N (j * 5 + 1) < 27720) : Ctr l G yX12_gap cX12_gap 4 (Option.some FieldType.int) (rmO 1 0 0 23) [.ref x] [(x, .inr (11, [.ref (q 1), .ref (q 2), .int (iZ pm), .ref (q 3), .int (iZ ty), .int (iZ ap), .int (iZ fo), .int (iZ wr), .ref (q 4), .ref (q 5), .ref (q 6), .ref (q 7), .ref (q 8), .ref (q 9), .ref (q 10), .int (iZ rm), .ref (q 11), .ref (q 12), .int (iZ hm), .ref (q 13), .ref (q 14), .ref (q 15), .ref (q 16), .int (iZ sb), .int (iZ be), .ref (q 17), .ref (q 18)])), ((q 11), .inl (G.2 1, 3000, .inr (.inl (lF N)))), ((q 17), .inl (G.2 2, 27720, .inl (iF g)))] (Det (some (.int (iZ (if (cvS N (clr0 g 27720) hm.toNat).1 = 0 then 27720 else (gpM (cvS N (clr0 g 27720) hm.toNat).2 55440).2)))) [(x, .inr (11, [.ref (q 1), .ref (q 2), .int (iZ pm), .ref (q 3), .int (iZ ty), .int (iZ ap), .int (iZ fo), .int (iZ wr), .ref (q 4), .ref (q 5), .ref (q 6), .ref (q 7), .ref (q 8), .ref (q 9), .ref (q 10), .int (iZ rm), .ref (q 11), .ref (q 12), .int (iZ hm), .ref (q 13), .ref (q 14), .ref (q 15), .ref (q 16), .int (iZ sb), .int (iZ be), .ref (q 17), .ref (q 18)])), ((q 11), .inl (G.2 1, 3000, .inr (.inl (lF N)))), ((q 17), .inl (G.2 2, 27720, .inl (iF (cvS N (clr0 g 27720) hm.toNat).2)))]) := by
  refine Ctr.go (own := RX12) (nm := "gap") (by decide +kernel) rfl rfl [some (.ref x), none, none, none] 3 rfl rfl (Nat.le_of_ble_eq_true rfl) ?_
  intro K h hF
  have hcv := cvS_c (N := N) (g := clr0 g 27720) hm.toNat
  have hZ := cvS_g (N := N) (clr_Z (g := g)) hm.toNat
  refine V_aload_n h (dk dd_X12_gap_0 0 rfl) rfl get0 ?_
  refine V_callV h st1 ci_X12_209 (pk_c get0 (pk_c get1 (pk_c get2 pk_n))) rfl 0 get0 rfl (m_X12_covered l G _ _ _ _ _ _ _ _ _ _ _ _ _ (by omega) (hP)) rfl rfl (Nat.le_of_ble_eq_true rfl) (by decide) ⟨rfl, rfl, rfl⟩ (dk dd_X12_gap_0 1 rfl) sk1 (sm_c set0 (sm_c set1 (sm_c set2 sm_n))) ?_
  refine V_if_ne (tgt := 11) h (dk dd_X12_gap_0 2 rfl) rfl (by omega) (fun c4 => ?_) (fun c4 => ?_)
  · refine V_iconst h (dk dd_X12_gap_0 5 rfl) ?_
    refine V_istore_n h (dk dd_X12_gap_0 6 rfl) rfl (Nat.le_of_ble_eq_true rfl) rfl set1 ?_
    refine V_iconst h (dk dd_X12_gap_0 7 rfl) ?_
    refine V_istore_n h (dk dd_X12_gap_0 8 rfl) rfl (Nat.le_of_ble_eq_true rfl) rfl set2 ?_
    refine V_iconst h (dk dd_X12_gap_0 9 rfl) ?_
    refine V_istore_n h (dk dd_X12_gap_0 10 rfl) rfl (Nat.le_of_ble_eq_true rfl) rfl set3 ?_
    have L17 : ∀ (fu : Nat) (b r p : Int), 0 ≤ p ∧ p ≤ 55440 ∧ (r, b) = gpM (cvS N (clr0 g 27720) hm.toNat).2 p.toNat → (55440 - p).toNat < fu → V K (0, 0) 17 [some (.ref x), some (.int (iZ b)), some (.int (iZ r)), some (.int (iZ p))] [] [(x, .inr (11, [.ref (q 1), .ref (q 2), .int (iZ pm), .ref (q 3), .int (iZ ty), .int (iZ ap), .int (iZ fo), .int (iZ wr), .ref (q 4), .ref (q 5), .ref (q 6), .ref (q 7), .ref (q 8), .ref (q 9), .ref (q 10), .int (iZ rm), .ref (q 11), .ref (q 12), .int (iZ hm), .ref (q 13), .ref (q 14), .ref (q 15), .ref (q 16), .int (iZ sb), .int (iZ be), .ref (q 17), .ref (q 18)])), ((q 11), .inl (G.2 1, 3000, .inr (.inl (lF N)))), ((q 17), .inl (G.2 2, 27720, .inl (iF (cvS N (clr0 g 27720) hm.toNat).2)))] := by
      intro fu
      induction fu with
      | zero => intro b r p _ hm; exact absurd hm (Nat.not_lt_zero _)
      | succ fu ih17 =>
        intro b r p hI17 hm17
        obtain ⟨hp0, hp1, he⟩ := hI17
        have hR := gpM_R (g := (cvS N (clr0 g 27720) hm.toNat).2) p.toNat
        rw [← he] at hR
        dsimp only at hR
        refine V_iload_n h (dk dd_X12_gap_0 11 rfl) rfl get3 ?_
        refine V_ldc h q5_52 (dk dd_X12_gap_0 12 rfl) ?_
        refine V_icmp_ge (tgt := 61) h (dk dd_X12_gap_0 13 rfl) rfl (by omega) (fun c20 => ?_) (fun c20 => ?_)
        · refine V_iload_n h (dk dd_X12_gap_0 36 rfl) rfl get1 ?_
          refine V_iret h hF (dk dd_X12_gap_0 37 rfl) ⟨Nat.le_of_ble_eq_true rfl, Nat.le_of_ble_eq_true rfl⟩ ?_
          have e : p = 55440 := by omega
          subst e
          exact det_i (by rw [if_neg c4]; exact congrArg Prod.snd he) rfl
        · refine V_aload_n h (dk dd_X12_gap_0 14 rfl) rfl get0 ?_
          refine V_get h fl_X12_60 0 get0 get25 (dk dd_X12_gap_0 15 rfl) ?_
          refine V_iload_n h (dk dd_X12_gap_0 16 rfl) rfl get3 ?_
          refine V_sipush h (dk dd_X12_gap_0 17 rfl) (by decide) ?_
          refine V_iremP h (dk dd_X12_gap_0 18 rfl) (by omega) ?_
          refine V_zald h 2 get2 (by omega) (dk dd_X12_gap_0 19 rfl) ?_
          refine V_if_eq (tgt := 40) h (dk dd_X12_gap_0 20 rfl) rfl ((hZ _ (by omega) (by omega)).R) (fun c33 => ?_) (fun c33 => ?_)
          · refine V_iload_n h (dk dd_X12_gap_0 23 rfl) rfl get2 ?_
            refine V_iconst h (dk dd_X12_gap_0 24 rfl) ?_
            refine V_iadd h (dk dd_X12_gap_0 25 rfl) ?_
            refine V_istore_n h (dk dd_X12_gap_0 26 rfl) rfl (Nat.le_of_ble_eq_true rfl) rfl set2 ?_
            refine V_iload_n h (dk dd_X12_gap_0 27 rfl) rfl get2 ?_
            refine V_iload_n h (dk dd_X12_gap_0 28 rfl) rfl get1 ?_
            refine V_icmp_le (tgt := 53) h (dk dd_X12_gap_0 29 rfl) rfl (by omega) (fun c46 => ?_) (fun c46 => ?_)
            · refine V_iload_n h (dk dd_X12_gap_0 32 rfl) rfl get1 ?_
              refine V_istore_n h (dk dd_X12_gap_0 33 rfl) rfl (Nat.le_of_ble_eq_true rfl) rfl set1 ?_
              refine V_iinc h (dk dd_X12_gap_0 34 rfl) get3 (Nat.le_of_ble_eq_true rfl) rfl set3 ?_
              refine V_goto (tgt := 17) h (dk dd_X12_gap_0 35 rfl) rfl ?_
              exact ih17 _ _ _ ⟨by omega, by omega, by rw [gpM_s hp0, ← he]; dsimp only; rw [if_pos (by assumption)]; exact congrArg (Prod.mk _) (by omega)⟩ (by omega)
            · refine V_iload_n h (dk dd_X12_gap_0 30 rfl) rfl get2 ?_
              refine V_goto (tgt := 54) h (dk dd_X12_gap_0 31 rfl) rfl ?_
              refine V_istore_n h (dk dd_X12_gap_0 33 rfl) rfl (Nat.le_of_ble_eq_true rfl) rfl set1 ?_
              refine V_iinc h (dk dd_X12_gap_0 34 rfl) get3 (Nat.le_of_ble_eq_true rfl) rfl set3 ?_
              refine V_goto (tgt := 17) h (dk dd_X12_gap_0 35 rfl) rfl ?_
              exact ih17 _ _ _ ⟨by omega, by omega, by rw [gpM_s hp0, ← he]; dsimp only; rw [if_pos (by assumption)]; exact congrArg (Prod.mk _) (by omega)⟩ (by omega)
          · refine V_iconst h (dk dd_X12_gap_0 21 rfl) ?_
            refine V_goto (tgt := 43) h (dk dd_X12_gap_0 22 rfl) rfl ?_
            refine V_istore_n h (dk dd_X12_gap_0 26 rfl) rfl (Nat.le_of_ble_eq_true rfl) rfl set2 ?_
            refine V_iload_n h (dk dd_X12_gap_0 27 rfl) rfl get2 ?_
            refine V_iload_n h (dk dd_X12_gap_0 28 rfl) rfl get1 ?_
            refine V_icmp_le (tgt := 53) h (dk dd_X12_gap_0 29 rfl) rfl (by omega) (fun c46_2 => ?_) (fun c46_2 => ?_)
            · refine V_iload_n h (dk dd_X12_gap_0 32 rfl) rfl get1 ?_
              refine V_istore_n h (dk dd_X12_gap_0 33 rfl) rfl (Nat.le_of_ble_eq_true rfl) rfl set1 ?_
              refine V_iinc h (dk dd_X12_gap_0 34 rfl) get3 (Nat.le_of_ble_eq_true rfl) rfl set3 ?_
              refine V_goto (tgt := 17) h (dk dd_X12_gap_0 35 rfl) rfl ?_
              exact ih17 _ _ _ ⟨by omega, by omega, by rw [gpM_s hp0, ← he]; dsimp only; rw [if_neg (by assumption)]; exact congrArg (Prod.mk _) (by omega)⟩ (by omega)
            · refine V_iload_n h (dk dd_X12_gap_0 30 rfl) rfl get2 ?_
              refine V_goto (tgt := 54) h (dk dd_X12_gap_0 31 rfl) rfl ?_
              refine V_istore_n h (dk dd_X12_gap_0 33 rfl) rfl (Nat.le_of_ble_eq_true rfl) rfl set1 ?_
              refine V_iinc h (dk dd_X12_gap_0 34 rfl) get3 (Nat.le_of_ble_eq_true rfl) rfl set3 ?_
              refine V_goto (tgt := 17) h (dk dd_X12_gap_0 35 rfl) rfl ?_
              exact ih17 _ _ _ ⟨by omega, by omega, by rw [gpM_s hp0, ← he]; dsimp only; rw [if_neg (by assumption)]; exact congrArg (Prod.mk _) (by omega)⟩ (by omega)
    exact L17 _ 0 0 0 ⟨by omega, by omega, rfl⟩ (Nat.lt_succ_self _)
  · refine V_sipush h (dk dd_X12_gap_0 3 rfl) (by decide) ?_
    refine V_iret h hF (dk dd_X12_gap_0 4 rfl) ⟨Nat.le_of_ble_eq_true rfl, Nat.le_of_ble_eq_true rfl⟩ ?_
    exact det_i (by rw [if_pos c4]) rfl

set_option maxHeartbeats 4000000 in
set_option maxRecDepth 100000 in
theorem m_X12_mean (l : Launch) (G : GT) (x : Nat) (q : Nat → Nat) (pm ty ap fo wr rm hm sb be : Int) (N : Int → Int) (hh : 0 ≤ hm ∧ hm ≤ 600) : Ctr l G yX12_mean cX12_mean 4 (Option.some FieldType.float) (rmO 0 0 0 0) [.ref x] [(x, .inr (11, [.ref (q 1), .ref (q 2), .int (iZ pm), .ref (q 3), .int (iZ ty), .int (iZ ap), .int (iZ fo), .int (iZ wr), .ref (q 4), .ref (q 5), .ref (q 6), .ref (q 7), .ref (q 8), .ref (q 9), .ref (q 10), .int (iZ rm), .ref (q 11), .ref (q 12), .int (iZ hm), .ref (q 13), .ref (q 14), .ref (q 15), .ref (q 16), .int (iZ sb), .int (iZ be), .ref (q 17), .ref (q 18)])), ((q 11), .inl (G.2 1, 3000, .inr (.inl (lF N))))] (Det (some (.float (meanV (sumE N hm.toNat) hm))) [(x, .inr (11, [.ref (q 1), .ref (q 2), .int (iZ pm), .ref (q 3), .int (iZ ty), .int (iZ ap), .int (iZ fo), .int (iZ wr), .ref (q 4), .ref (q 5), .ref (q 6), .ref (q 7), .ref (q 8), .ref (q 9), .ref (q 10), .int (iZ rm), .ref (q 11), .ref (q 12), .int (iZ hm), .ref (q 13), .ref (q 14), .ref (q 15), .ref (q 16), .int (iZ sb), .int (iZ be), .ref (q 17), .ref (q 18)])), ((q 11), .inl (G.2 1, 3000, .inr (.inl (lF N))))]) := by
  refine Ctr.go (own := RX12) (nm := "mean") (by decide +kernel) rfl rfl [some (.ref x), none, none, none] 3 rfl rfl (Nat.le_of_ble_eq_true rfl) ?_
  intro K h hF
  refine V_lconst0 h (dk dd_X12_mean_0 0 rfl) ?_
  refine V_lstore_n h (dk dd_X12_mean_0 1 rfl) rfl (Nat.le_of_ble_eq_true rfl) rfl set1 set2 ?_
  refine V_iconst h (dk dd_X12_mean_0 2 rfl) ?_
  refine V_istore_n h (dk dd_X12_mean_0 3 rfl) rfl (Nat.le_of_ble_eq_true rfl) rfl set3 ?_
  have L4 : ∀ (fu : Nat) (k t : Int), 0 ≤ k ∧ k ≤ hm ∧ t = sumE N k.toNat → (hm - k).toNat < fu → V K (0, 0) 4 [some (.ref x), some (.long (lZ t)), none, some (.int (iZ k))] [] [(x, .inr (11, [.ref (q 1), .ref (q 2), .int (iZ pm), .ref (q 3), .int (iZ ty), .int (iZ ap), .int (iZ fo), .int (iZ wr), .ref (q 4), .ref (q 5), .ref (q 6), .ref (q 7), .ref (q 8), .ref (q 9), .ref (q 10), .int (iZ rm), .ref (q 11), .ref (q 12), .int (iZ hm), .ref (q 13), .ref (q 14), .ref (q 15), .ref (q 16), .int (iZ sb), .int (iZ be), .ref (q 17), .ref (q 18)])), ((q 11), .inl (G.2 1, 3000, .inr (.inl (lF N))))] := by
    intro fu
    induction fu with
    | zero => intro k t _ hm; exact absurd hm (Nat.not_lt_zero _)
    | succ fu ih4 =>
      intro k t hI4 hm4
      obtain ⟨hk0, hk1, he⟩ := hI4
      refine V_iload_n h (dk dd_X12_mean_0 4 rfl) rfl get3 ?_
      refine V_aload_n h (dk dd_X12_mean_0 5 rfl) rfl get0 ?_
      refine V_get h fl_X12_172 0 get0 get18 (dk dd_X12_mean_0 6 rfl) ?_
      refine V_icmp_ge (tgt := 31) h (dk dd_X12_mean_0 7 rfl) rfl (by omega) (fun c9 => ?_) (fun c9 => ?_)
      · have e : k = hm := by omega
        subst e
        refine V_aload_n h (dk dd_X12_mean_0 21 rfl) rfl get0 ?_
        refine V_get h fl_X12_172 0 get0 get18 (dk dd_X12_mean_0 22 rfl) ?_
        refine V_if_ne (tgt := 42) h (dk dd_X12_mean_0 23 rfl) rfl (by omega) (fun c35 => ?_) (fun c35 => ?_)
        · refine V_lload_n h (dk dd_X12_mean_0 26 rfl) rfl get1 ?_
          refine V_l2f h (dk dd_X12_mean_0 27 rfl) ?_
          refine V_aload_n h (dk dd_X12_mean_0 28 rfl) rfl get0 ?_
          refine V_get h fl_X12_172 0 get0 get18 (dk dd_X12_mean_0 29 rfl) ?_
          refine V_i2f h (dk dd_X12_mean_0 30 rfl) ?_
          refine V_fdiv h (dk dd_X12_mean_0 31 rfl) (div_ok (by omega)) ?_
          refine V_fret h hF (dk dd_X12_mean_0 32 rfl) ⟨Nat.le_of_ble_eq_true rfl, Nat.le_of_ble_eq_true rfl⟩ ?_
          exact det_f (by unfold meanV; rw [if_neg c35, he]) rfl
        · refine V_fconst0 h (dk dd_X12_mean_0 24 rfl) ?_
          refine V_goto (tgt := 50) h (dk dd_X12_mean_0 25 rfl) rfl ?_
          refine V_fret h hF (dk dd_X12_mean_0 32 rfl) ⟨Nat.le_of_ble_eq_true rfl, Nat.le_of_ble_eq_true rfl⟩ ?_
          exact det_f (by unfold meanV; rw [if_pos c35]) rfl
      · refine V_lload_n h (dk dd_X12_mean_0 8 rfl) rfl get1 ?_
        refine V_aload_n h (dk dd_X12_mean_0 9 rfl) rfl get0 ?_
        refine V_get h fl_X12_42 0 get0 get16 (dk dd_X12_mean_0 10 rfl) ?_
        refine V_iconst h (dk dd_X12_mean_0 11 rfl) ?_
        refine V_iload_n h (dk dd_X12_mean_0 12 rfl) rfl get3 ?_
        refine V_imul h (dk dd_X12_mean_0 13 rfl) ?_
        refine V_iconst h (dk dd_X12_mean_0 14 rfl) ?_
        refine V_iadd h (dk dd_X12_mean_0 15 rfl) ?_
        rw [show 5 * k + 3 = k * 5 + 3 by omega]
        refine V_lald h 1 get1 (by omega) (dk dd_X12_mean_0 16 rfl) ?_
        refine V_ladd h (dk dd_X12_mean_0 17 rfl) ?_
        refine V_lstore_n h (dk dd_X12_mean_0 18 rfl) rfl (Nat.le_of_ble_eq_true rfl) rfl set1 set2 ?_
        refine V_iinc h (dk dd_X12_mean_0 19 rfl) get3 (Nat.le_of_ble_eq_true rfl) rfl set3 ?_
        refine V_goto (tgt := 4) h (dk dd_X12_mean_0 20 rfl) rfl ?_
        exact ih4 _ _ ⟨by omega, by omega, by rw [sumE_s hk0, ← he]⟩ (by omega)
  exact L4 _ 0 0 ⟨by omega, by omega, rfl⟩ (Nat.lt_succ_self _)

set_option maxHeartbeats 4000000 in
set_option maxRecDepth 100000 in
theorem m_X12_between (l : Launch) (G : GT) (a b p : Int) (ha : 0 ≤ a ∧ a < 27720) (hb : 0 ≤ b ∧ b < 27720) (hp : 0 ≤ p ∧ p < 27720) : Ctr l G yX12_between cX12_between 3 (Option.some FieldType.boolean) (rmO 0 0 0 0) [.int (iZ a), .int (iZ b), .int (iZ p)] [] (Det (some (.int (iZ (bZ (btwM a b p))))) []) := by
  refine Ctr.go (own := RX12) (nm := "between") (by decide +kernel) rfl rfl [some (.int (iZ a)), some (.int (iZ b)), some (.int (iZ p))] 0 rfl rfl (Nat.le_of_ble_eq_true rfl) ?_
  intro K h hF
  refine V_iload_n h (dk dd_X12_between_0 0 rfl) rfl get2 ?_
  refine V_iload_n h (dk dd_X12_between_0 1 rfl) rfl get0 ?_
  refine V_isub h (dk dd_X12_between_0 2 rfl) ?_
  refine V_sipush h (dk dd_X12_between_0 3 rfl) (by decide) ?_
  refine V_iadd h (dk dd_X12_between_0 4 rfl) ?_
  refine V_sipush h (dk dd_X12_between_0 5 rfl) (by decide) ?_
  refine V_iremP h (dk dd_X12_between_0 6 rfl) (by omega) ?_
  refine V_iload_n h (dk dd_X12_between_0 7 rfl) rfl get1 ?_
  refine V_iload_n h (dk dd_X12_between_0 8 rfl) rfl get0 ?_
  refine V_isub h (dk dd_X12_between_0 9 rfl) ?_
  refine V_sipush h (dk dd_X12_between_0 10 rfl) (by decide) ?_
  refine V_iadd h (dk dd_X12_between_0 11 rfl) ?_
  refine V_sipush h (dk dd_X12_between_0 12 rfl) (by decide) ?_
  refine V_iremP h (dk dd_X12_between_0 13 rfl) (by omega) ?_
  refine V_icmp_ge (tgt := 29) h (dk dd_X12_between_0 14 rfl) rfl (by omega) (fun c22 => ?_) (fun c22 => ?_)
  · refine V_iconst h (dk dd_X12_between_0 17 rfl) ?_
    refine V_zret h hF (dk dd_X12_between_0 18 rfl) ⟨Nat.le_of_ble_eq_true rfl, Nat.le_of_ble_eq_true rfl⟩ (by first | exact Or.inr rfl | exact Or.inl rfl | exact bZ_01 | omega) ?_
    exact det_i (by first | exact (bZ_t (by omega)).symm | exact (bZ_f (by omega)).symm | rfl) rfl
  · refine V_iconst h (dk dd_X12_between_0 15 rfl) ?_
    refine V_goto (tgt := 30) h (dk dd_X12_between_0 16 rfl) rfl ?_
    refine V_zret h hF (dk dd_X12_between_0 18 rfl) ⟨Nat.le_of_ble_eq_true rfl, Nat.le_of_ble_eq_true rfl⟩ (by first | exact Or.inr rfl | exact Or.inl rfl | exact bZ_01 | omega) ?_
    exact det_i (by first | exact (bZ_t (by omega)).symm | exact (bZ_f (by omega)).symm | rfl) rfl

set_option maxHeartbeats 4000000 in
set_option maxRecDepth 100000 in
theorem m_X12_crosses (l : Launch) (G : GT) (x : Nat) (q : Nat → Nat) (pm ty ap fo wr rm hm sb be : Int) (e : Int → Int) (m i j : Int) (hR : edR m e) (hi : 0 ≤ i ∧ i < m) (hj : 0 ≤ j ∧ j < m) (hm2 : m ≤ 200) : Ctr l G yX12_crosses cX12_crosses 8 (Option.some FieldType.boolean) (rmO 1 0 0 22) [.ref x, .int (iZ i), .int (iZ j)] [(x, .inr (11, [.ref (q 1), .ref (q 2), .int (iZ pm), .ref (q 3), .int (iZ ty), .int (iZ ap), .int (iZ fo), .int (iZ wr), .ref (q 4), .ref (q 5), .ref (q 6), .ref (q 7), .ref (q 8), .ref (q 9), .ref (q 10), .int (iZ rm), .ref (q 11), .ref (q 12), .int (iZ hm), .ref (q 13), .ref (q 14), .ref (q 15), .ref (q 16), .int (iZ sb), .int (iZ be), .ref (q 17), .ref (q 18)])), ((q 18), .inl (G.2 0, 201, .inl (iF e)))] (Det (some (.int (iZ (bZ (crossP (e i) (e (i + 1)) (e j) (e (j + 1))))))) [(x, .inr (11, [.ref (q 1), .ref (q 2), .int (iZ pm), .ref (q 3), .int (iZ ty), .int (iZ ap), .int (iZ fo), .int (iZ wr), .ref (q 4), .ref (q 5), .ref (q 6), .ref (q 7), .ref (q 8), .ref (q 9), .ref (q 10), .int (iZ rm), .ref (q 11), .ref (q 12), .int (iZ hm), .ref (q 13), .ref (q 14), .ref (q 15), .ref (q 16), .int (iZ sb), .int (iZ be), .ref (q 17), .ref (q 18)])), ((q 18), .inl (G.2 0, 201, .inl (iF e)))]) := by
  refine Ctr.go (own := RX12) (nm := "crosses") (by decide +kernel) rfl rfl [some (.ref x), some (.int (iZ i)), some (.int (iZ j)), none, none, none, none, none] 5 rfl rfl (Nat.le_of_ble_eq_true rfl) ?_
  intro K h hF
  have r1 := hR i (by omega) (by omega)
  have r2 := hR (i + 1) (by omega) (by omega)
  have r3 := hR j (by omega) (by omega)
  have r4 := hR (j + 1) (by omega) (by omega)
  have J66 : ∀ (b : Int), (b = 0 ∧ ¬ crossP (e i) (e (i + 1)) (e j) (e (j + 1))) ∨ (b = 1 ∧ ¬ e i = e j ∧ ¬ e i = e (j + 1) ∧ ¬ e (i + 1) = e j ∧ ¬ e (i + 1) = e (j + 1)) → V K (0, 0) 66 [some (.ref x), some (.int (iZ i)), some (.int (iZ j)), some (.int (iZ (e i))), some (.int (iZ (e (i + 1)))), some (.int (iZ (e j))), some (.int (iZ (e (j + 1)))), none] [.int (iZ b)] [(x, .inr (11, [.ref (q 1), .ref (q 2), .int (iZ pm), .ref (q 3), .int (iZ ty), .int (iZ ap), .int (iZ fo), .int (iZ wr), .ref (q 4), .ref (q 5), .ref (q 6), .ref (q 7), .ref (q 8), .ref (q 9), .ref (q 10), .int (iZ rm), .ref (q 11), .ref (q 12), .int (iZ hm), .ref (q 13), .ref (q 14), .ref (q 15), .ref (q 16), .int (iZ sb), .int (iZ be), .ref (q 17), .ref (q 18)])), ((q 18), .inl (G.2 0, 201, .inl (iF e)))] := by
    intro b hJ66
    refine V_istore h (dk dd_X12_crosses_0 39 rfl) (Nat.le_of_ble_eq_true rfl) rfl set7 ?_
    refine V_iload h (dk dd_X12_crosses_0 40 rfl) get7 ?_
    refine V_if_eq (tgt := 96) h (dk dd_X12_crosses_0 41 rfl) rfl (by omega) (fun c70 => ?_) (fun c70 => ?_)
    · refine V_iconst h (dk dd_X12_crosses_1 3 rfl) ?_
      refine V_zret h hF (dk dd_X12_crosses_1 4 rfl) ⟨Nat.le_of_ble_eq_true rfl, Nat.le_of_ble_eq_true rfl⟩ (by first | exact Or.inr rfl | exact Or.inl rfl | exact bZ_01 | omega) ?_
      exact det_i (bZ_f (by first | exact (hJ66.resolve_right (fun q => by omega)).2)).symm rfl
    · obtain ⟨-, d1, d2, d3, d4⟩ := hJ66.resolve_left (fun q => by omega)
      refine V_iload_n h (dk dd_X12_crosses_0 42 rfl) rfl get3 ?_
      refine V_iload h (dk dd_X12_crosses_0 43 rfl) get4 ?_
      refine V_iload h (dk dd_X12_crosses_0 44 rfl) get5 ?_
      refine V_callS h st3 ci_X12_219 pk_n rfl (m_X12_between l G _ _ _ (by omega) (by omega) (by omega)) rfl rfl (Nat.le_of_ble_eq_true rfl) (by decide) ⟨rfl, rfl, rfl⟩ (dk dd_X12_crosses_0 45 rfl) sk1 sm_n ?_
      refine V_iload_n h (dk dd_X12_crosses_0 46 rfl) rfl get3 ?_
      refine V_iload h (dk dd_X12_crosses_0 47 rfl) get4 ?_
      refine V_iload h (dk dd_X12_crosses_0 48 rfl) get6 ?_
      refine V_callS h st3 ci_X12_219 pk_n rfl (m_X12_between l G _ _ _ (by omega) (by omega) (by omega)) rfl rfl (Nat.le_of_ble_eq_true rfl) (by decide) ⟨rfl, rfl, rfl⟩ (dk dd_X12_crosses_0 49 rfl) sk1 sm_n ?_
      refine V_icmp_eq (tgt := 96) h (dk dd_X12_crosses_1 0 rfl) rfl (⟨bZ_Z.R, bZ_Z.R⟩) (fun c89 => ?_) (fun c89 => ?_)
      · refine V_iconst h (dk dd_X12_crosses_1 3 rfl) ?_
        refine V_zret h hF (dk dd_X12_crosses_1 4 rfl) ⟨Nat.le_of_ble_eq_true rfl, Nat.le_of_ble_eq_true rfl⟩ (by first | exact Or.inr rfl | exact Or.inl rfl | exact bZ_01 | omega) ?_
        exact det_i (bZ_f (cross_f r1 r2 r3 r4 d1 d2 d3 d4 (bZ_inj.mp c89))).symm rfl
      · refine V_iconst h (dk dd_X12_crosses_1 1 rfl) ?_
        refine V_goto (tgt := 97) h (dk dd_X12_crosses_1 2 rfl) rfl ?_
        refine V_zret h hF (dk dd_X12_crosses_1 4 rfl) ⟨Nat.le_of_ble_eq_true rfl, Nat.le_of_ble_eq_true rfl⟩ (by first | exact Or.inr rfl | exact Or.inl rfl | exact bZ_01 | omega) ?_
        exact det_i (bZ_t (cross_t r1 r2 r3 r4 d1 d2 d3 d4 (fun q => c89 (bZ_inj.mpr q)))).symm rfl
  refine V_aload_n h (dk dd_X12_crosses_0 0 rfl) rfl get0 ?_
  refine V_get h fl_X12_63 0 get0 get26 (dk dd_X12_crosses_0 1 rfl) ?_
  refine V_iload_n h (dk dd_X12_crosses_0 2 rfl) rfl get1 ?_
  refine V_iald h 1 get1 (by omega) (dk dd_X12_crosses_0 3 rfl) ?_
  refine V_istore_n h (dk dd_X12_crosses_0 4 rfl) rfl (Nat.le_of_ble_eq_true rfl) rfl set3 ?_
  refine V_aload_n h (dk dd_X12_crosses_0 5 rfl) rfl get0 ?_
  refine V_get h fl_X12_63 0 get0 get26 (dk dd_X12_crosses_0 6 rfl) ?_
  refine V_iload_n h (dk dd_X12_crosses_0 7 rfl) rfl get1 ?_
  refine V_iconst h (dk dd_X12_crosses_0 8 rfl) ?_
  refine V_iadd h (dk dd_X12_crosses_0 9 rfl) ?_
  refine V_iald h 1 get1 (by omega) (dk dd_X12_crosses_0 10 rfl) ?_
  refine V_istore h (dk dd_X12_crosses_0 11 rfl) (Nat.le_of_ble_eq_true rfl) rfl set4 ?_
  refine V_aload_n h (dk dd_X12_crosses_0 12 rfl) rfl get0 ?_
  refine V_get h fl_X12_63 0 get0 get26 (dk dd_X12_crosses_0 13 rfl) ?_
  refine V_iload_n h (dk dd_X12_crosses_0 14 rfl) rfl get2 ?_
  refine V_iald h 1 get1 (by omega) (dk dd_X12_crosses_0 15 rfl) ?_
  refine V_istore h (dk dd_X12_crosses_0 16 rfl) (Nat.le_of_ble_eq_true rfl) rfl set5 ?_
  refine V_aload_n h (dk dd_X12_crosses_0 17 rfl) rfl get0 ?_
  refine V_get h fl_X12_63 0 get0 get26 (dk dd_X12_crosses_0 18 rfl) ?_
  refine V_iload_n h (dk dd_X12_crosses_0 19 rfl) rfl get2 ?_
  refine V_iconst h (dk dd_X12_crosses_0 20 rfl) ?_
  refine V_iadd h (dk dd_X12_crosses_0 21 rfl) ?_
  refine V_iald h 1 get1 (by omega) (dk dd_X12_crosses_0 22 rfl) ?_
  refine V_istore h (dk dd_X12_crosses_0 23 rfl) (Nat.le_of_ble_eq_true rfl) rfl set6 ?_
  refine V_iload_n h (dk dd_X12_crosses_0 24 rfl) rfl get3 ?_
  refine V_iload h (dk dd_X12_crosses_0 25 rfl) get5 ?_
  refine V_icmp_eq (tgt := 65) h (dk dd_X12_crosses_0 26 rfl) rfl (by omega) (fun c38 => ?_) (fun c38 => ?_)
  · refine V_iconst h (dk dd_X12_crosses_0 38 rfl) ?_
    exact J66 0 (Or.inl ⟨rfl, by unfold crossP btwP beyP; omega⟩)
  · refine V_iload_n h (dk dd_X12_crosses_0 27 rfl) rfl get3 ?_
    refine V_iload h (dk dd_X12_crosses_0 28 rfl) get6 ?_
    refine V_icmp_eq (tgt := 65) h (dk dd_X12_crosses_0 29 rfl) rfl (by omega) (fun c44 => ?_) (fun c44 => ?_)
    · refine V_iconst h (dk dd_X12_crosses_0 38 rfl) ?_
      exact J66 0 (Or.inl ⟨rfl, by unfold crossP btwP beyP; omega⟩)
    · refine V_iload h (dk dd_X12_crosses_0 30 rfl) get4 ?_
      refine V_iload h (dk dd_X12_crosses_0 31 rfl) get5 ?_
      refine V_icmp_eq (tgt := 65) h (dk dd_X12_crosses_0 32 rfl) rfl (by omega) (fun c51 => ?_) (fun c51 => ?_)
      · refine V_iconst h (dk dd_X12_crosses_0 38 rfl) ?_
        exact J66 0 (Or.inl ⟨rfl, by unfold crossP btwP beyP; omega⟩)
      · refine V_iload h (dk dd_X12_crosses_0 33 rfl) get4 ?_
        refine V_iload h (dk dd_X12_crosses_0 34 rfl) get6 ?_
        refine V_icmp_eq (tgt := 65) h (dk dd_X12_crosses_0 35 rfl) rfl (by omega) (fun c58 => ?_) (fun c58 => ?_)
        · refine V_iconst h (dk dd_X12_crosses_0 38 rfl) ?_
          exact J66 0 (Or.inl ⟨rfl, by unfold crossP btwP beyP; omega⟩)
        · refine V_iconst h (dk dd_X12_crosses_0 36 rfl) ?_
          refine V_goto (tgt := 66) h (dk dd_X12_crosses_0 37 rfl) rfl ?_
          exact J66 1 (Or.inr ⟨rfl, c38, c44, c51, c58⟩)

set_option maxHeartbeats 4000000 in
set_option maxRecDepth 100000 in
theorem m_mcrossings_bad (l : Launch) (G : GT) (x : Nat) (q : Nat → Nat) (pm ty ap fo wr rm hm sb be : Int) (k : Int) (hk : R32 k) (hA : ¬ (0 ≤ k ∧ k ≤ 200)) : Ctr l G yX12_crossings cX12_crossings 6 (Option.some FieldType.int) (rmO 2 0 0 49) [.ref x, .int (iZ k)] [(x, .inr (11, [.ref (q 1), .ref (q 2), .int (iZ pm), .ref (q 3), .int (iZ ty), .int (iZ ap), .int (iZ fo), .int (iZ wr), .ref (q 4), .ref (q 5), .ref (q 6), .ref (q 7), .ref (q 8), .ref (q 9), .ref (q 10), .int (iZ rm), .ref (q 11), .ref (q 12), .int (iZ hm), .ref (q 13), .ref (q 14), .ref (q 15), .ref (q 16), .int (iZ sb), .int (iZ be), .ref (q 17), .ref (q 18)]))] (Det (some (.int (iZ (-100001)))) [(x, .inr (11, [.ref (q 1), .ref (q 2), .int (iZ pm), .ref (q 3), .int (iZ ty), .int (iZ ap), .int (iZ fo), .int (iZ wr), .ref (q 4), .ref (q 5), .ref (q 6), .ref (q 7), .ref (q 8), .ref (q 9), .ref (q 10), .int (iZ rm), .ref (q 11), .ref (q 12), .int (iZ hm), .ref (q 13), .ref (q 14), .ref (q 15), .ref (q 16), .int (iZ sb), .int (iZ be), .ref (q 17), .ref (q 18)]))]) := by
  refine Ctr.go (own := RX12) (nm := "crossings") (by decide +kernel) rfl rfl [some (.ref x), some (.int (iZ k)), none, none, none, none] 4 rfl rfl (Nat.le_of_ble_eq_true rfl) ?_
  intro K h hF
  refine V_iload_n h (dk dd_X12_crossings_0 0 rfl) rfl get1 ?_
  refine V_iconst h (dk dd_X12_crossings_0 1 rfl) ?_
  refine V_sipush h (dk dd_X12_crossings_0 2 rfl) (by decide) ?_
  refine V_callS h st3 ci_X12_70 pk_n rfl (m_X12_in l G _ _ _ (by omega) (by omega) (by omega)) rfl rfl (Nat.le_of_ble_eq_true rfl) (by decide) ⟨rfl, rfl, rfl⟩ (dk dd_X12_crossings_0 3 rfl) sk1 sm_n ?_
  refine V_ifz_ne (tgt := 14) h (dk dd_X12_crossings_0 4 rfl) rfl (fun c8 => ?_) (fun c8 => ?_)
  · exact absurd c8 hA
  · refine V_ldc h q4_104 (dk dd_X12_crossings_0 5 rfl) ?_
    refine V_iret h hF (dk dd_X12_crossings_0 6 rfl) ⟨Nat.le_of_ble_eq_true rfl, Nat.le_of_ble_eq_true rfl⟩ ?_
    exact det_i (by first | rfl | omega) rfl

set_option maxHeartbeats 4000000 in
set_option maxRecDepth 100000 in
theorem m_mcrossings_ok (l : Launch) (G : GT) (x : Nat) (q : Nat → Nat) (pm ty ap fo wr rm hm sb be : Int) (N e : Int → Int) (k : Int) (hh : 0 ≤ hm ∧ hm ≤ 600) (hP : ∀ j, 0 ≤ j → j < hm → 0 ≤ N (j * 5 + 1) ∧ N (j * 5 + 1) < 27720) (hZ : ∀ j, 0 ≤ j → j < hm → 0 ≤ N (j * 5) ∧ N (j * 5) < 100) (hbe : 0 ≤ be ∧ be < 27720) (hA : 0 ≤ k ∧ k ≤ 200) : Ctr l G yX12_crossings cX12_crossings 6 (Option.some FieldType.int) (rmO 2 0 0 49) [.ref x, .int (iZ k)] [(x, .inr (11, [.ref (q 1), .ref (q 2), .int (iZ pm), .ref (q 3), .int (iZ ty), .int (iZ ap), .int (iZ fo), .int (iZ wr), .ref (q 4), .ref (q 5), .ref (q 6), .ref (q 7), .ref (q 8), .ref (q 9), .ref (q 10), .int (iZ rm), .ref (q 11), .ref (q 12), .int (iZ hm), .ref (q 13), .ref (q 14), .ref (q 15), .ref (q 16), .int (iZ sb), .int (iZ be), .ref (q 17), .ref (q 18)])), ((q 11), .inl (G.2 1, 3000, .inr (.inl (lF N)))), ((q 18), .inl (G.2 0, 201, .inl (iF e)))] (Det (some (.int (iZ (pairsF (edS N (zup e 0 be) k hm.toNat).2 ((edS N (zup e 0 be) k hm.toNat).1 + 1))))) [(x, .inr (11, [.ref (q 1), .ref (q 2), .int (iZ pm), .ref (q 3), .int (iZ ty), .int (iZ ap), .int (iZ fo), .int (iZ wr), .ref (q 4), .ref (q 5), .ref (q 6), .ref (q 7), .ref (q 8), .ref (q 9), .ref (q 10), .int (iZ rm), .ref (q 11), .ref (q 12), .int (iZ hm), .ref (q 13), .ref (q 14), .ref (q 15), .ref (q 16), .int (iZ sb), .int (iZ be), .ref (q 17), .ref (q 18)])), ((q 11), .inl (G.2 1, 3000, .inr (.inl (lF N)))), ((q 18), .inl (G.2 0, 201, .inl (iF (edS N (zup e 0 be) k hm.toNat).2)))]) := by
  refine Ctr.go (own := RX12) (nm := "crossings") (by decide +kernel) rfl rfl [some (.ref x), some (.int (iZ k)), none, none, none, none] 4 rfl rfl (Nat.le_of_ble_eq_true rfl) ?_
  intro K h hF
  refine V_iload_n h (dk dd_X12_crossings_0 0 rfl) rfl get1 ?_
  refine V_iconst h (dk dd_X12_crossings_0 1 rfl) ?_
  refine V_sipush h (dk dd_X12_crossings_0 2 rfl) (by decide) ?_
  refine V_callS h st3 ci_X12_70 pk_n rfl (m_X12_in l G _ _ _ (by omega) (by omega) (by omega)) rfl rfl (Nat.le_of_ble_eq_true rfl) (by decide) ⟨rfl, rfl, rfl⟩ (dk dd_X12_crossings_0 3 rfl) sk1 sm_n ?_
  refine V_ifz_ne (tgt := 14) h (dk dd_X12_crossings_0 4 rfl) rfl (fun c8 => ?_) (fun c8 => ?_)
  · have J80 : ∀ (m : Int) (e1 : Int → Int), (m, e1) = (edS N (zup e 0 be) k hm.toNat) ∧ (0 ≤ m ∧ m ≤ k) ∧ edR m e1 → V K (0, 0) 80 [some (.ref x), some (.int (iZ k)), some (.int (iZ m)), none, none, none] [] [(x, .inr (11, [.ref (q 1), .ref (q 2), .int (iZ pm), .ref (q 3), .int (iZ ty), .int (iZ ap), .int (iZ fo), .int (iZ wr), .ref (q 4), .ref (q 5), .ref (q 6), .ref (q 7), .ref (q 8), .ref (q 9), .ref (q 10), .int (iZ rm), .ref (q 11), .ref (q 12), .int (iZ hm), .ref (q 13), .ref (q 14), .ref (q 15), .ref (q 16), .int (iZ sb), .int (iZ be), .ref (q 17), .ref (q 18)])), ((q 11), .inl (G.2 1, 3000, .inr (.inl (lF N)))), ((q 18), .inl (G.2 0, 201, .inl (iF e1)))] := by
      intro m e1 hJ80
      obtain ⟨hE, hm1, hR⟩ := hJ80
      refine V_iconst h (dk dd_X12_crossings_0 49 rfl) ?_
      refine V_istore_n h (dk dd_X12_crossings_1 0 rfl) rfl (Nat.le_of_ble_eq_true rfl) rfl set3 ?_
      refine V_iconst h (dk dd_X12_crossings_1 1 rfl) ?_
      refine V_istore h (dk dd_X12_crossings_1 2 rfl) (Nat.le_of_ble_eq_true rfl) rfl set4 ?_
      have L85 : ∀ (fu : Nat) (s i : Int), 0 ≤ i ∧ i ≤ m ∧ s = sumR (pairJ e1 (m + 1)) 1 i.toNat → (m - i).toNat < fu → V K (0, 0) 85 [some (.ref x), some (.int (iZ k)), some (.int (iZ m)), some (.int (iZ s)), some (.int (iZ i)), none] [] [(x, .inr (11, [.ref (q 1), .ref (q 2), .int (iZ pm), .ref (q 3), .int (iZ ty), .int (iZ ap), .int (iZ fo), .int (iZ wr), .ref (q 4), .ref (q 5), .ref (q 6), .ref (q 7), .ref (q 8), .ref (q 9), .ref (q 10), .int (iZ rm), .ref (q 11), .ref (q 12), .int (iZ hm), .ref (q 13), .ref (q 14), .ref (q 15), .ref (q 16), .int (iZ sb), .int (iZ be), .ref (q 17), .ref (q 18)])), ((q 11), .inl (G.2 1, 3000, .inr (.inl (lF N)))), ((q 18), .inl (G.2 0, 201, .inl (iF e1)))] := by
        intro fu
        induction fu with
        | zero => intro s i _ hm; exact absurd hm (Nat.not_lt_zero _)
        | succ fu ih85 =>
          intro s i hI85 hm85
          obtain ⟨hi0, hi1, hs⟩ := hI85
          refine V_iload h (dk dd_X12_crossings_1 3 rfl) get4 ?_
          refine V_iload_n h (dk dd_X12_crossings_1 4 rfl) rfl get2 ?_
          refine V_icmp_ge (tgt := 134) h (dk dd_X12_crossings_1 5 rfl) rfl (by omega) (fun c88 => ?_) (fun c88 => ?_)
          · refine V_iload_n h (dk dd_X12_crossings_1 28 rfl) rfl get3 ?_
            refine V_iret h hF (dk dd_X12_crossings_1 29 rfl) ⟨Nat.le_of_ble_eq_true rfl, Nat.le_of_ble_eq_true rfl⟩ ?_
            have e9 : i = m := by omega
            subst e9
            rw [← hE]
            exact det_i (by rw [hs]; unfold pairsF; rw [show (i + 1 - 1).toNat = i.toNat by omega]) rfl
          · refine V_iload h (dk dd_X12_crossings_1 6 rfl) get4 ?_
            refine V_iconst h (dk dd_X12_crossings_1 7 rfl) ?_
            refine V_iadd h (dk dd_X12_crossings_1 8 rfl) ?_
            refine V_istore h (dk dd_X12_crossings_1 9 rfl) (Nat.le_of_ble_eq_true rfl) rfl set5 ?_
            have L97 : ∀ (fu : Nat) (j s2 : Int), i + 1 ≤ j ∧ j ≤ m ∧ s2 = s + sumR (pairI e1 (i + 1)) (i + 1 + 1) (j - (i + 1)).toNat → (m - j).toNat < fu → V K (0, 0) 97 [some (.ref x), some (.int (iZ k)), some (.int (iZ m)), some (.int (iZ s2)), some (.int (iZ i)), some (.int (iZ j))] [] [(x, .inr (11, [.ref (q 1), .ref (q 2), .int (iZ pm), .ref (q 3), .int (iZ ty), .int (iZ ap), .int (iZ fo), .int (iZ wr), .ref (q 4), .ref (q 5), .ref (q 6), .ref (q 7), .ref (q 8), .ref (q 9), .ref (q 10), .int (iZ rm), .ref (q 11), .ref (q 12), .int (iZ hm), .ref (q 13), .ref (q 14), .ref (q 15), .ref (q 16), .int (iZ sb), .int (iZ be), .ref (q 17), .ref (q 18)])), ((q 11), .inl (G.2 1, 3000, .inr (.inl (lF N)))), ((q 18), .inl (G.2 0, 201, .inl (iF e1)))] := by
              intro fu
              induction fu with
              | zero => intro j s2 _ hm; exact absurd hm (Nat.not_lt_zero _)
              | succ fu ih97 =>
                intro j s2 hI97 hm97
                refine V_iload h (dk dd_X12_crossings_1 10 rfl) get5 ?_
                refine V_iload_n h (dk dd_X12_crossings_1 11 rfl) rfl get2 ?_
                refine V_icmp_ge (tgt := 128) h (dk dd_X12_crossings_1 12 rfl) rfl (by omega) (fun c100 => ?_) (fun c100 => ?_)
                · refine V_iinc h (dk dd_X12_crossings_1 26 rfl) get4 (Nat.le_of_ble_eq_true rfl) rfl set4 ?_
                  refine V_goto (tgt := 85) h (dk dd_X12_crossings_1 27 rfl) rfl ?_
                  refine V_wk (lw_s (lw_s (lw_s (lw_s (lw_s (lw_o lw_n)))))) ?_
                  exact ih85 _ _ ⟨by omega, by omega, by rw [show (i + 1).toNat = (i + 1 + 1 - 1).toNat by omega, sumR_s _ _ (by omega), show (i + 1 - 1).toNat = i.toNat by omega, ← hs, hI97.2.2]; unfold pairJ; rw [show (j - (i + 1)).toNat = (m + 1 - 1 - (i + 1)).toNat by omega]⟩ (by omega)
                · refine V_iload_n h (dk dd_X12_crossings_1 13 rfl) rfl get3 ?_
                  refine V_aload_n h (dk dd_X12_crossings_1 14 rfl) rfl get0 ?_
                  refine V_iload h (dk dd_X12_crossings_1 15 rfl) get4 ?_
                  refine V_iload h (dk dd_X12_crossings_1 16 rfl) get5 ?_
                  refine V_callV h st3 ci_X12_222 (pk_c get0 (pk_c get2 pk_n)) rfl 0 get0 rfl (m_X12_crosses l G _ _ _ _ _ _ _ _ _ _ _ _ _ _ _ (hR) (by omega) (by omega) (by omega)) rfl rfl (Nat.le_of_ble_eq_true rfl) (by decide) ⟨rfl, rfl, rfl⟩ (dk dd_X12_crossings_1 17 rfl) sk1 (sm_c set0 (sm_c set2 sm_n)) ?_
                  refine V_ifz_eq (tgt := 119) h (dk dd_X12_crossings_1 18 rfl) rfl (fun c112 => ?_) (fun c112 => ?_)
                  · refine V_iconst h (dk dd_X12_crossings_1 21 rfl) ?_
                    refine V_iadd h (dk dd_X12_crossings_1 22 rfl) ?_
                    refine V_istore_n h (dk dd_X12_crossings_1 23 rfl) rfl (Nat.le_of_ble_eq_true rfl) rfl set3 ?_
                    refine V_iinc h (dk dd_X12_crossings_1 24 rfl) get5 (Nat.le_of_ble_eq_true rfl) rfl set5 ?_
                    refine V_goto (tgt := 97) h (dk dd_X12_crossings_1 25 rfl) rfl ?_
                    exact ih97 _ _ ⟨by omega, by omega, by rw [show (j + 1 - (i + 1)).toNat = (j + 1 + 1 - (i + 1 + 1)).toNat by omega, sumR_s _ _ (by omega), show (j + 1 - (i + 1 + 1)).toNat = (j - (i + 1)).toNat by omega, hI97.2.2]; unfold pairI; rw [show i + 1 - 1 = i by omega, show j + 1 - 1 = j by omega, bZ_f c112]; omega⟩ (by omega)
                  · refine V_iconst h (dk dd_X12_crossings_1 19 rfl) ?_
                    refine V_goto (tgt := 120) h (dk dd_X12_crossings_1 20 rfl) rfl ?_
                    refine V_iadd h (dk dd_X12_crossings_1 22 rfl) ?_
                    refine V_istore_n h (dk dd_X12_crossings_1 23 rfl) rfl (Nat.le_of_ble_eq_true rfl) rfl set3 ?_
                    refine V_iinc h (dk dd_X12_crossings_1 24 rfl) get5 (Nat.le_of_ble_eq_true rfl) rfl set5 ?_
                    refine V_goto (tgt := 97) h (dk dd_X12_crossings_1 25 rfl) rfl ?_
                    exact ih97 _ _ ⟨by omega, by omega, by rw [show (j + 1 - (i + 1)).toNat = (j + 1 + 1 - (i + 1 + 1)).toNat by omega, sumR_s _ _ (by omega), show (j + 1 - (i + 1 + 1)).toNat = (j - (i + 1)).toNat by omega, hI97.2.2]; unfold pairI; rw [show i + 1 - 1 = i by omega, show j + 1 - 1 = j by omega, bZ_t c112]; omega⟩ (by omega)
            exact L97 _ _ _ (⟨by omega, by omega, by rw [Int.sub_self]; exact (Int.add_zero _).symm⟩) (Nat.lt_succ_self _)
      exact L85 _ _ _ (⟨by omega, by omega, rfl⟩) (Nat.lt_succ_self _)
    refine V_iconst h (dk dd_X12_crossings_0 7 rfl) ?_
    refine V_istore_n h (dk dd_X12_crossings_0 8 rfl) rfl (Nat.le_of_ble_eq_true rfl) rfl set2 ?_
    refine V_aload_n h (dk dd_X12_crossings_0 9 rfl) rfl get0 ?_
    refine V_get h fl_X12_63 0 get0 get26 (dk dd_X12_crossings_0 10 rfl) ?_
    refine V_iconst h (dk dd_X12_crossings_0 11 rfl) ?_
    refine V_aload_n h (dk dd_X12_crossings_0 12 rfl) rfl get0 ?_
    refine V_get h fl_X12_197 0 get0 get24 (dk dd_X12_crossings_0 13 rfl) ?_
    refine V_iast h 2 get2 (by omega) set2 (dk dd_X12_crossings_0 14 rfl) ?_
    refine V_iconst h (dk dd_X12_crossings_0 15 rfl) ?_
    refine V_istore_n h (dk dd_X12_crossings_0 16 rfl) rfl (Nat.le_of_ble_eq_true rfl) rfl set3 ?_
    have L28 : ∀ (fu : Nat) (u m : Int) (e1 : Int → Int), 0 ≤ u ∧ u ≤ hm ∧ (m, e1) = edS N (zup e 0 be) k u.toNat ∧ (0 ≤ m ∧ m ≤ k) ∧ edR m e1 → (hm - u).toNat < fu → V K (0, 0) 28 [some (.ref x), some (.int (iZ k)), some (.int (iZ m)), some (.int (iZ u)), none, none] [] [(x, .inr (11, [.ref (q 1), .ref (q 2), .int (iZ pm), .ref (q 3), .int (iZ ty), .int (iZ ap), .int (iZ fo), .int (iZ wr), .ref (q 4), .ref (q 5), .ref (q 6), .ref (q 7), .ref (q 8), .ref (q 9), .ref (q 10), .int (iZ rm), .ref (q 11), .ref (q 12), .int (iZ hm), .ref (q 13), .ref (q 14), .ref (q 15), .ref (q 16), .int (iZ sb), .int (iZ be), .ref (q 17), .ref (q 18)])), ((q 11), .inl (G.2 1, 3000, .inr (.inl (lF N)))), ((q 18), .inl (G.2 0, 201, .inl (iF e1)))] := by
      intro fu
      induction fu with
      | zero => intro u m e1 _ hm; exact absurd hm (Nat.not_lt_zero _)
      | succ fu ih28 =>
        intro u m e1 hI28 hm28
        obtain ⟨hh0, hh1, he, hm1, hR⟩ := hI28
        refine V_iload_n h (dk dd_X12_crossings_0 17 rfl) rfl get3 ?_
        refine V_aload_n h (dk dd_X12_crossings_0 18 rfl) rfl get0 ?_
        refine V_get h fl_X12_172 0 get0 get18 (dk dd_X12_crossings_0 19 rfl) ?_
        refine V_icmp_ge (tgt := 80) h (dk dd_X12_crossings_0 20 rfl) rfl (by omega) (fun c33 => ?_) (fun c33 => ?_)
        · refine V_wk (lw_s (lw_s (lw_s (lw_o (lw_s (lw_s lw_n)))))) ?_
          exact J80 _ _ ⟨by rw [he, show u = hm by omega], hm1, hR⟩
        · refine V_iload_n h (dk dd_X12_crossings_0 21 rfl) rfl get2 ?_
          refine V_iload_n h (dk dd_X12_crossings_0 22 rfl) rfl get1 ?_
          refine V_icmp_ge (tgt := 80) h (dk dd_X12_crossings_0 23 rfl) rfl (by omega) (fun c38 => ?_) (fun c38 => ?_)
          · refine V_wk (lw_s (lw_s (lw_s (lw_o (lw_s (lw_s lw_n)))))) ?_
            exact J80 _ _ ⟨by have e9 := edS_full (N := N) (en := zup e 0 be) (k := k) (a := u.toNat) (by rw [← he]; dsimp only; omega) (hm.toNat - u.toNat); rw [show u.toNat + (hm.toNat - u.toNat) = hm.toNat by omega] at e9; rw [e9]; exact he, hm1, hR⟩
          · have hp := hP u hh0 (by omega)
            have hz := hZ u hh0 (by omega)
            refine V_aload_n h (dk dd_X12_crossings_0 24 rfl) rfl get0 ?_
            refine V_get h fl_X12_42 0 get0 get16 (dk dd_X12_crossings_0 25 rfl) ?_
            refine V_iconst h (dk dd_X12_crossings_0 26 rfl) ?_
            refine V_iload_n h (dk dd_X12_crossings_0 27 rfl) rfl get3 ?_
            refine V_imul h (dk dd_X12_crossings_0 28 rfl) ?_
            rw [Int.mul_comm 5 u]
            refine V_lald h 1 get1 (by omega) (dk dd_X12_crossings_0 29 rfl) ?_
            refine V_lconst0 h (dk dd_X12_crossings_0 30 rfl) ?_
            refine V_lcmp_ne (tgt := 74) h (dk dd_X12_crossings_0 31 rfl) (dk dd_X12_crossings_0 32 rfl) rfl (by omega) (fun c50 => ?_) (fun c50 => ?_)
            · refine V_iinc h (dk dd_X12_crossings_0 47 rfl) get3 (Nat.le_of_ble_eq_true rfl) rfl set3 ?_
              refine V_goto (tgt := 28) h (dk dd_X12_crossings_0 48 rfl) rfl ?_
              exact ih28 (u + 1) m e1 ⟨by omega, by omega, by rw [edS_s hh0, ← he]; dsimp only; rw [if_neg (fun q => c50 q.2)], hm1, hR⟩ (by omega)
            · refine V_iinc h (dk dd_X12_crossings_0 33 rfl) get2 (Nat.le_of_ble_eq_true rfl) rfl set2 ?_
              refine V_aload_n h (dk dd_X12_crossings_0 34 rfl) rfl get0 ?_
              refine V_get h fl_X12_63 0 get0 get26 (dk dd_X12_crossings_0 35 rfl) ?_
              refine V_iload_n h (dk dd_X12_crossings_0 36 rfl) rfl get2 ?_
              refine V_aload_n h (dk dd_X12_crossings_0 37 rfl) rfl get0 ?_
              refine V_get h fl_X12_42 0 get0 get16 (dk dd_X12_crossings_0 38 rfl) ?_
              refine V_iconst h (dk dd_X12_crossings_0 39 rfl) ?_
              refine V_iload_n h (dk dd_X12_crossings_0 40 rfl) rfl get3 ?_
              refine V_imul h (dk dd_X12_crossings_0 41 rfl) ?_
              refine V_iconst h (dk dd_X12_crossings_0 42 rfl) ?_
              refine V_iadd h (dk dd_X12_crossings_0 43 rfl) ?_
              rw [show 5 * u + 1 = u * 5 + 1 by omega]
              refine V_lald h 1 get1 (by omega) (dk dd_X12_crossings_0 44 rfl) ?_
              refine V_l2i h (dk dd_X12_crossings_0 45 rfl) ?_
              refine V_iast h 2 get2 (by omega) set2 (dk dd_X12_crossings_0 46 rfl) ?_
              refine V_iinc h (dk dd_X12_crossings_0 47 rfl) get3 (Nat.le_of_ble_eq_true rfl) rfl set3 ?_
              refine V_goto (tgt := 28) h (dk dd_X12_crossings_0 48 rfl) rfl ?_
              exact ih28 (u + 1) (m + 1) _ ⟨by omega, by omega, by rw [edS_s hh0, ← he]; dsimp only; rw [if_pos ⟨by omega, c50⟩], by omega, edR_s hR hp⟩ (by omega)
    exact L28 _ 0 0 (zup e 0 be) ⟨by omega, by omega, rfl, by omega, fun j a b => by rw [show j = 0 by omega, zup_s]; exact hbe⟩ (Nat.lt_succ_self _)
  · exact absurd hA c8

set_option maxHeartbeats 4000000 in
set_option maxRecDepth 100000 in
theorem m_X12_fingerprint (l : Launch) (G : GT) (x : Nat) (q : Nat → Nat) (pm ty ap fo wr rm hm sb be : Int) (vv N g my su fi mo : Int → Int) (hh : 0 ≤ hm ∧ hm ≤ 600) (hP : ∀ j, 0 ≤ j → j < hm → 0 ≤ N (j * 5 + 1) ∧ N (j * 5 + 1) < 27720) (hE : ∀ j, 0 ≤ j → j < 12 → R32 (my j) ∧ R32 (mo j)) (hv : 0 ≤ vv 0 ∧ vv 0 ≤ 12) (hV : ∀ j, 0 ≤ j → j < 4 + 4 * vv 0 → j ≠ 3 → R32 (vv j)) (hrm : 0 ≤ rm ∧ rm ≤ 100) : Ctr l G yX12_fingerprint cX12_fingerprint 5 (Option.some FieldType.long) (rmO 1 0 0 23) [.ref x] [(x, .inr (11, [.ref (q 1), .ref (q 2), .int (iZ pm), .ref (q 3), .int (iZ ty), .int (iZ ap), .int (iZ fo), .int (iZ wr), .ref (q 4), .ref (q 5), .ref (q 6), .ref (q 7), .ref (q 8), .ref (q 9), .ref (q 10), .int (iZ rm), .ref (q 11), .ref (q 12), .int (iZ hm), .ref (q 13), .ref (q 14), .ref (q 15), .ref (q 16), .int (iZ sb), .int (iZ be), .ref (q 17), .ref (q 18)])), ((q 1), .inl (G.2 0, 60, .inl (iF vv))), ((q 11), .inl (G.2 1, 3000, .inr (.inl (lF N)))), ((q 17), .inl (G.2 2, 27720, .inl (iF g))), ((q 13), .inl (G.2 0, 12, .inl (iF my))), ((q 14), .inl (G.2 1, 12, .inr (.inl (lF su)))), ((q 15), .inl (G.2 1, 12, .inr (.inl (lF fi)))), ((q 16), .inl (G.2 0, 12, .inl (iF mo)))] (Det (some (.long (lZ (fpM (vv 0) (vv 1) (vv 2) hm rm (cvS N (clr0 g 27720) hm.toNat).1 (vF vv) N (fun j => heM my su fi mo (j / 4) (j % 4)))))) [(x, .inr (11, [.ref (q 1), .ref (q 2), .int (iZ pm), .ref (q 3), .int (iZ ty), .int (iZ ap), .int (iZ fo), .int (iZ wr), .ref (q 4), .ref (q 5), .ref (q 6), .ref (q 7), .ref (q 8), .ref (q 9), .ref (q 10), .int (iZ rm), .ref (q 11), .ref (q 12), .int (iZ hm), .ref (q 13), .ref (q 14), .ref (q 15), .ref (q 16), .int (iZ sb), .int (iZ be), .ref (q 17), .ref (q 18)])), ((q 1), .inl (G.2 0, 60, .inl (iF vv))), ((q 11), .inl (G.2 1, 3000, .inr (.inl (lF N)))), ((q 17), .inl (G.2 2, 27720, .inl (iF (cvS N (clr0 g 27720) hm.toNat).2))), ((q 13), .inl (G.2 0, 12, .inl (iF my))), ((q 14), .inl (G.2 1, 12, .inr (.inl (lF su)))), ((q 15), .inl (G.2 1, 12, .inr (.inl (lF fi)))), ((q 16), .inl (G.2 0, 12, .inl (iF mo)))]) := by
  refine Ctr.go (own := RX12) (nm := "fingerprint") (by decide +kernel) rfl rfl [some (.ref x), none, none, none, none] 4 rfl rfl (Nat.le_of_ble_eq_true rfl) ?_
  intro K h hF
  have hcv := cvS_c (N := N) (g := clr0 g 27720) hm.toNat
  have v0 := hV 0 (by decide) (by omega) (by decide)
  have v1 := hV 1 (by decide) (by omega) (by decide)
  have v2 := hV 2 (by decide) (by omega) (by decide)
  refine V_ldc2 h q5_89 (dk dd_X12_fingerprint_0 0 rfl) ?_
  refine V_aload_n h (dk dd_X12_fingerprint_0 1 rfl) rfl get0 ?_
  refine V_get h fl_X12_7 0 get0 get0 (dk dd_X12_fingerprint_0 2 rfl) ?_
  refine V_iconst h (dk dd_X12_fingerprint_0 3 rfl) ?_
  refine V_iald h 1 get1 (by omega) (dk dd_X12_fingerprint_0 4 rfl) ?_
  refine V_i2l h (dk dd_X12_fingerprint_0 5 rfl) (by omega) ?_
  refine V_ladd h (dk dd_X12_fingerprint_0 6 rfl) ?_
  refine V_lstore_n h (dk dd_X12_fingerprint_0 7 rfl) rfl (Nat.le_of_ble_eq_true rfl) rfl set1 set2 ?_
  refine V_iconst h (dk dd_X12_fingerprint_0 8 rfl) ?_
  refine V_istore_n h (dk dd_X12_fingerprint_0 9 rfl) rfl (Nat.le_of_ble_eq_true rfl) rfl set3 ?_
  have L14 : ∀ (fu : Nat) (t i : Int), 0 ≤ i ∧ i ≤ 4 * vv 0 ∧ t = fold31 (vF vv) i.toNat (3937 + vv 0) → (4 * vv 0 - i).toNat < fu → V K (0, 0) 14 [some (.ref x), some (.long (lZ t)), none, some (.int (iZ i)), none] [] [(x, .inr (11, [.ref (q 1), .ref (q 2), .int (iZ pm), .ref (q 3), .int (iZ ty), .int (iZ ap), .int (iZ fo), .int (iZ wr), .ref (q 4), .ref (q 5), .ref (q 6), .ref (q 7), .ref (q 8), .ref (q 9), .ref (q 10), .int (iZ rm), .ref (q 11), .ref (q 12), .int (iZ hm), .ref (q 13), .ref (q 14), .ref (q 15), .ref (q 16), .int (iZ sb), .int (iZ be), .ref (q 17), .ref (q 18)])), ((q 1), .inl (G.2 0, 60, .inl (iF vv))), ((q 11), .inl (G.2 1, 3000, .inr (.inl (lF N)))), ((q 17), .inl (G.2 2, 27720, .inl (iF g))), ((q 13), .inl (G.2 0, 12, .inl (iF my))), ((q 14), .inl (G.2 1, 12, .inr (.inl (lF su)))), ((q 15), .inl (G.2 1, 12, .inr (.inl (lF fi)))), ((q 16), .inl (G.2 0, 12, .inl (iF mo)))] := by
    intro fu
    induction fu with
    | zero => intro t i _ hm; exact absurd hm (Nat.not_lt_zero _)
    | succ fu ih14 =>
      intro t i hI14 hm14
      obtain ⟨hi0, hi1, he⟩ := hI14
      refine V_iload_n h (dk dd_X12_fingerprint_0 10 rfl) rfl get3 ?_
      refine V_iconst h (dk dd_X12_fingerprint_0 11 rfl) ?_
      refine V_aload_n h (dk dd_X12_fingerprint_0 12 rfl) rfl get0 ?_
      refine V_get h fl_X12_7 0 get0 get0 (dk dd_X12_fingerprint_0 13 rfl) ?_
      refine V_iconst h (dk dd_X12_fingerprint_0 14 rfl) ?_
      refine V_iald h 1 get1 (by omega) (dk dd_X12_fingerprint_0 15 rfl) ?_
      refine V_imul h (dk dd_X12_fingerprint_0 16 rfl) ?_
      refine V_icmp_ge (tgt := 48) h (dk dd_X12_fingerprint_0 17 rfl) rfl (by omega) (fun c23 => ?_) (fun c23 => ?_)
      · have e9 : i = 4 * vv 0 := by omega
        subst e9
        refine V_ldc2 h q5_90 (dk dd_X12_fingerprint_0 32 rfl) ?_
        refine V_ldc2 h q5_90 (dk dd_X12_fingerprint_0 33 rfl) ?_
        refine V_ldc2 h q5_90 (dk dd_X12_fingerprint_0 34 rfl) ?_
        refine V_ldc2 h q5_90 (dk dd_X12_fingerprint_0 35 rfl) ?_
        refine V_ldc2 h q5_90 (dk dd_X12_fingerprint_0 36 rfl) ?_
        refine V_lload_n h (dk dd_X12_fingerprint_0 37 rfl) rfl get1 ?_
        refine V_lmul h (dk dd_X12_fingerprint_0 38 rfl) ?_
        refine V_aload_n h (dk dd_X12_fingerprint_0 39 rfl) rfl get0 ?_
        refine V_get h fl_X12_7 0 get0 get0 (dk dd_X12_fingerprint_0 40 rfl) ?_
        refine V_iconst h (dk dd_X12_fingerprint_0 41 rfl) ?_
        refine V_iald h 1 get1 (by omega) (dk dd_X12_fingerprint_0 42 rfl) ?_
        refine V_i2l h (dk dd_X12_fingerprint_0 43 rfl) (by omega) ?_
        refine V_ladd h (dk dd_X12_fingerprint_0 44 rfl) ?_
        refine V_lmul h (dk dd_X12_fingerprint_0 45 rfl) ?_
        refine V_aload_n h (dk dd_X12_fingerprint_0 46 rfl) rfl get0 ?_
        refine V_get h fl_X12_7 0 get0 get0 (dk dd_X12_fingerprint_0 47 rfl) ?_
        refine V_iconst h (dk dd_X12_fingerprint_0 48 rfl) ?_
        refine V_iald h 1 get1 (by omega) (dk dd_X12_fingerprint_0 49 rfl) ?_
        refine V_i2l h (dk dd_X12_fingerprint_1 0 rfl) (by omega) ?_
        refine V_ladd h (dk dd_X12_fingerprint_1 1 rfl) ?_
        refine V_lmul h (dk dd_X12_fingerprint_1 2 rfl) ?_
        refine V_aload_n h (dk dd_X12_fingerprint_1 3 rfl) rfl get0 ?_
        refine V_get h fl_X12_172 0 get0 get18 (dk dd_X12_fingerprint_1 4 rfl) ?_
        refine V_i2l h (dk dd_X12_fingerprint_1 5 rfl) (by omega) ?_
        refine V_ladd h (dk dd_X12_fingerprint_1 6 rfl) ?_
        refine V_lmul h (dk dd_X12_fingerprint_1 7 rfl) ?_
        refine V_aload_n h (dk dd_X12_fingerprint_1 8 rfl) rfl get0 ?_
        refine V_get h fl_X12_169 0 get0 get15 (dk dd_X12_fingerprint_1 9 rfl) ?_
        refine V_i2l h (dk dd_X12_fingerprint_1 10 rfl) (by omega) ?_
        refine V_ladd h (dk dd_X12_fingerprint_1 11 rfl) ?_
        refine V_lmul h (dk dd_X12_fingerprint_1 12 rfl) ?_
        refine V_aload_n h (dk dd_X12_fingerprint_1 13 rfl) rfl get0 ?_
        refine V_callV h st1 ci_X12_209 (pk_c get0 (pk_c get2 (pk_c get3 pk_n))) rfl 0 get0 rfl (m_X12_covered l G _ _ _ _ _ _ _ _ _ _ _ _ _ (by omega) (hP)) rfl rfl (Nat.le_of_ble_eq_true rfl) (by decide) ⟨rfl, rfl, rfl⟩ (dk dd_X12_fingerprint_1 14 rfl) sk1 (sm_c set0 (sm_c set2 (sm_c set3 sm_n))) ?_
        refine V_i2l h (dk dd_X12_fingerprint_1 15 rfl) (by omega) ?_
        refine V_ladd h (dk dd_X12_fingerprint_1 16 rfl) ?_
        refine V_lstore_n h (dk dd_X12_fingerprint_1 17 rfl) rfl (Nat.le_of_ble_eq_true rfl) rfl set1 set2 ?_
        refine V_iconst h (dk dd_X12_fingerprint_1 18 rfl) ?_
        refine V_istore_n h (dk dd_X12_fingerprint_1 19 rfl) rfl (Nat.le_of_ble_eq_true rfl) rfl set3 ?_
        have L106 : ∀ (fu : Nat) (t i : Int), 0 ≤ i ∧ i ≤ 5 * hm ∧ t = fold31 N i.toNat (31 * (31 * (31 * (31 * (31 * fold31 (vF vv) (4 * vv 0).toNat (3937 + vv 0) + vv 1) + vv 2) + hm) + rm) + (cvS N (clr0 g 27720) hm.toNat).1) → (5 * hm - i).toNat < fu → V K (0, 0) 106 [some (.ref x), some (.long (lZ t)), none, some (.int (iZ i)), none] [] [(x, .inr (11, [.ref (q 1), .ref (q 2), .int (iZ pm), .ref (q 3), .int (iZ ty), .int (iZ ap), .int (iZ fo), .int (iZ wr), .ref (q 4), .ref (q 5), .ref (q 6), .ref (q 7), .ref (q 8), .ref (q 9), .ref (q 10), .int (iZ rm), .ref (q 11), .ref (q 12), .int (iZ hm), .ref (q 13), .ref (q 14), .ref (q 15), .ref (q 16), .int (iZ sb), .int (iZ be), .ref (q 17), .ref (q 18)])), ((q 1), .inl (G.2 0, 60, .inl (iF vv))), ((q 11), .inl (G.2 1, 3000, .inr (.inl (lF N)))), ((q 17), .inl (G.2 2, 27720, .inl (iF (cvS N (clr0 g 27720) hm.toNat).2))), ((q 13), .inl (G.2 0, 12, .inl (iF my))), ((q 14), .inl (G.2 1, 12, .inr (.inl (lF su)))), ((q 15), .inl (G.2 1, 12, .inr (.inl (lF fi)))), ((q 16), .inl (G.2 0, 12, .inl (iF mo)))] := by
          intro fu
          induction fu with
          | zero => intro t i _ hm; exact absurd hm (Nat.not_lt_zero _)
          | succ fu ih106 =>
            intro t i hI106 hm106
            obtain ⟨hi0, hi1, he⟩ := hI106
            refine V_iload_n h (dk dd_X12_fingerprint_1 20 rfl) rfl get3 ?_
            refine V_iconst h (dk dd_X12_fingerprint_1 21 rfl) ?_
            refine V_aload_n h (dk dd_X12_fingerprint_1 22 rfl) rfl get0 ?_
            refine V_get h fl_X12_172 0 get0 get18 (dk dd_X12_fingerprint_1 23 rfl) ?_
            refine V_imul h (dk dd_X12_fingerprint_1 24 rfl) ?_
            refine V_icmp_ge (tgt := 135) h (dk dd_X12_fingerprint_1 25 rfl) rfl (by omega) (fun c113 => ?_) (fun c113 => ?_)
            · have e9 : i = 5 * hm := by omega
              subst e9
              refine V_iconst h (dk dd_X12_fingerprint_1 37 rfl) ?_
              refine V_istore_n h (dk dd_X12_fingerprint_1 38 rfl) rfl (Nat.le_of_ble_eq_true rfl) rfl set3 ?_
              have L137 : ∀ (fu : Nat) (t i : Int), 0 ≤ i ∧ i ≤ 12 ∧ t = fold31 (fun j => heM my su fi mo (j / 4) (j % 4)) (i * 4).toNat (fold31 N (5 * hm).toNat (31 * (31 * (31 * (31 * (31 * fold31 (vF vv) (4 * vv 0).toNat (3937 + vv 0) + vv 1) + vv 2) + hm) + rm) + (cvS N (clr0 g 27720) hm.toNat).1)) → (12 - i).toNat < fu → V K (0, 0) 137 [some (.ref x), some (.long (lZ t)), none, some (.int (iZ i)), none] [] [(x, .inr (11, [.ref (q 1), .ref (q 2), .int (iZ pm), .ref (q 3), .int (iZ ty), .int (iZ ap), .int (iZ fo), .int (iZ wr), .ref (q 4), .ref (q 5), .ref (q 6), .ref (q 7), .ref (q 8), .ref (q 9), .ref (q 10), .int (iZ rm), .ref (q 11), .ref (q 12), .int (iZ hm), .ref (q 13), .ref (q 14), .ref (q 15), .ref (q 16), .int (iZ sb), .int (iZ be), .ref (q 17), .ref (q 18)])), ((q 1), .inl (G.2 0, 60, .inl (iF vv))), ((q 11), .inl (G.2 1, 3000, .inr (.inl (lF N)))), ((q 17), .inl (G.2 2, 27720, .inl (iF (cvS N (clr0 g 27720) hm.toNat).2))), ((q 13), .inl (G.2 0, 12, .inl (iF my))), ((q 14), .inl (G.2 1, 12, .inr (.inl (lF su)))), ((q 15), .inl (G.2 1, 12, .inr (.inl (lF fi)))), ((q 16), .inl (G.2 0, 12, .inl (iF mo)))] := by
                intro fu
                induction fu with
                | zero => intro t i _ hm; exact absurd hm (Nat.not_lt_zero _)
                | succ fu ih137 =>
                  intro t i hI137 hm137
                  obtain ⟨hi0, hi1, he⟩ := hI137
                  refine V_iload_n h (dk dd_X12_fingerprint_1 39 rfl) rfl get3 ?_
                  refine V_bipush h (dk dd_X12_fingerprint_1 40 rfl) (by decide) ?_
                  refine V_icmp_ge (tgt := 178) h (dk dd_X12_fingerprint_1 41 rfl) rfl (by omega) (fun c140 => ?_) (fun c140 => ?_)
                  · refine V_lload_n h (dk dd_X12_fingerprint_2 10 rfl) rfl get1 ?_
                    refine V_lret h hF (dk dd_X12_fingerprint_2 11 rfl) ⟨Nat.le_of_ble_eq_true rfl, Nat.le_of_ble_eq_true rfl⟩ ?_
                    have e9 : i = 12 := by omega
                    subst e9
                    exact det_l he rfl
                  · refine V_iconst h (dk dd_X12_fingerprint_1 42 rfl) ?_
                    refine V_istore h (dk dd_X12_fingerprint_1 43 rfl) (Nat.le_of_ble_eq_true rfl) rfl set4 ?_
                    have L146 : ∀ (fu : Nat) (t2 j : Int), 0 ≤ j ∧ j ≤ 4 ∧ t2 = fold31 (fun j => heM my su fi mo (j / 4) (j % 4)) (i * 4 + j).toNat (fold31 N (5 * hm).toNat (31 * (31 * (31 * (31 * (31 * fold31 (vF vv) (4 * vv 0).toNat (3937 + vv 0) + vv 1) + vv 2) + hm) + rm) + (cvS N (clr0 g 27720) hm.toNat).1)) → (4 - j).toNat < fu → V K (0, 0) 146 [some (.ref x), some (.long (lZ t2)), none, some (.int (iZ i)), some (.int (iZ j))] [] [(x, .inr (11, [.ref (q 1), .ref (q 2), .int (iZ pm), .ref (q 3), .int (iZ ty), .int (iZ ap), .int (iZ fo), .int (iZ wr), .ref (q 4), .ref (q 5), .ref (q 6), .ref (q 7), .ref (q 8), .ref (q 9), .ref (q 10), .int (iZ rm), .ref (q 11), .ref (q 12), .int (iZ hm), .ref (q 13), .ref (q 14), .ref (q 15), .ref (q 16), .int (iZ sb), .int (iZ be), .ref (q 17), .ref (q 18)])), ((q 1), .inl (G.2 0, 60, .inl (iF vv))), ((q 11), .inl (G.2 1, 3000, .inr (.inl (lF N)))), ((q 17), .inl (G.2 2, 27720, .inl (iF (cvS N (clr0 g 27720) hm.toNat).2))), ((q 13), .inl (G.2 0, 12, .inl (iF my))), ((q 14), .inl (G.2 1, 12, .inr (.inl (lF su)))), ((q 15), .inl (G.2 1, 12, .inr (.inl (lF fi)))), ((q 16), .inl (G.2 0, 12, .inl (iF mo)))] := by
                      intro fu
                      induction fu with
                      | zero => intro t2 j _ hm; exact absurd hm (Nat.not_lt_zero _)
                      | succ fu ih146 =>
                        intro t2 j hI146 hm146
                        refine V_iload h (dk dd_X12_fingerprint_1 44 rfl) get4 ?_
                        refine V_iconst h (dk dd_X12_fingerprint_1 45 rfl) ?_
                        refine V_icmp_ge (tgt := 172) h (dk dd_X12_fingerprint_1 46 rfl) rfl (by omega) (fun c149 => ?_) (fun c149 => ?_)
                        · refine V_iinc h (dk dd_X12_fingerprint_2 8 rfl) get3 (Nat.le_of_ble_eq_true rfl) rfl set3 ?_
                          refine V_goto (tgt := 137) h (dk dd_X12_fingerprint_2 9 rfl) rfl ?_
                          refine V_wk (lw_s (lw_s (lw_s (lw_s (lw_o lw_n))))) ?_
                          exact ih137 _ _ ⟨by omega, by omega, by rw [hI146.2.2, show i * 4 + j = (i + 1) * 4 by omega]⟩ (by omega)
                        · refine V_ldc2 h q5_90 (dk dd_X12_fingerprint_1 47 rfl) ?_
                          refine V_lload_n h (dk dd_X12_fingerprint_1 48 rfl) rfl get1 ?_
                          refine V_lmul h (dk dd_X12_fingerprint_1 49 rfl) ?_
                          refine V_aload_n h (dk dd_X12_fingerprint_2 0 rfl) rfl get0 ?_
                          refine V_iload_n h (dk dd_X12_fingerprint_2 1 rfl) rfl get3 ?_
                          refine V_iload h (dk dd_X12_fingerprint_2 2 rfl) get4 ?_
                          refine V_callV h st3 ci_X12_215 (pk_c get0 (pk_c get4 (pk_c get5 (pk_c get6 (pk_c get7 pk_n))))) rfl 0 get0 rfl (m_X12_heardOf l G _ _ _ _ _ _ _ _ _ _ _ _ _ _ _ _ _ (by omega) (by omega) (hE)) rfl rfl (Nat.le_of_ble_eq_true rfl) (by decide) ⟨rfl, rfl, rfl⟩ (dk dd_X12_fingerprint_2 3 rfl) sk1 (sm_c set0 (sm_c set4 (sm_c set5 (sm_c set6 (sm_c set7 sm_n))))) ?_
                          refine V_ladd h (dk dd_X12_fingerprint_2 4 rfl) ?_
                          refine V_lstore_n h (dk dd_X12_fingerprint_2 5 rfl) rfl (Nat.le_of_ble_eq_true rfl) rfl set1 set2 ?_
                          refine V_iinc h (dk dd_X12_fingerprint_2 6 rfl) get4 (Nat.le_of_ble_eq_true rfl) rfl set4 ?_
                          refine V_goto (tgt := 146) h (dk dd_X12_fingerprint_2 7 rfl) rfl ?_
                          exact ih146 _ _ ⟨by omega, by omega, by rw [show i * 4 + (j + 1) = i * 4 + j + 1 by omega, fold_s (by omega), ← hI146.2.2]; rw [show (i * 4 + j) / 4 = i by omega, show (i * 4 + j) % 4 = j by omega]⟩ (by omega)
                    exact L146 _ _ 0 ⟨by omega, by omega, by rw [Int.add_zero]; exact he⟩ (Nat.lt_succ_self _)
              exact L137 _ _ 0 ⟨by omega, by omega, by rw [← he]; rfl⟩ (Nat.lt_succ_self _)
            · refine V_ldc2 h q5_90 (dk dd_X12_fingerprint_1 26 rfl) ?_
              refine V_lload_n h (dk dd_X12_fingerprint_1 27 rfl) rfl get1 ?_
              refine V_lmul h (dk dd_X12_fingerprint_1 28 rfl) ?_
              refine V_aload_n h (dk dd_X12_fingerprint_1 29 rfl) rfl get0 ?_
              refine V_get h fl_X12_42 0 get0 get16 (dk dd_X12_fingerprint_1 30 rfl) ?_
              refine V_iload_n h (dk dd_X12_fingerprint_1 31 rfl) rfl get3 ?_
              refine V_lald h 2 get2 (by omega) (dk dd_X12_fingerprint_1 32 rfl) ?_
              refine V_ladd h (dk dd_X12_fingerprint_1 33 rfl) ?_
              refine V_lstore_n h (dk dd_X12_fingerprint_1 34 rfl) rfl (Nat.le_of_ble_eq_true rfl) rfl set1 set2 ?_
              refine V_iinc h (dk dd_X12_fingerprint_1 35 rfl) get3 (Nat.le_of_ble_eq_true rfl) rfl set3 ?_
              refine V_goto (tgt := 106) h (dk dd_X12_fingerprint_1 36 rfl) rfl ?_
              exact ih106 _ _ ⟨by omega, by omega, by rw [fold_s hi0, ← he]⟩ (by omega)
        exact L106 _ _ 0 ⟨by omega, by omega, by rw [← he]; rfl⟩ (Nat.lt_succ_self _)
      · refine V_ldc2 h q5_90 (dk dd_X12_fingerprint_0 18 rfl) ?_
        refine V_lload_n h (dk dd_X12_fingerprint_0 19 rfl) rfl get1 ?_
        refine V_lmul h (dk dd_X12_fingerprint_0 20 rfl) ?_
        refine V_aload_n h (dk dd_X12_fingerprint_0 21 rfl) rfl get0 ?_
        refine V_get h fl_X12_7 0 get0 get0 (dk dd_X12_fingerprint_0 22 rfl) ?_
        refine V_iconst h (dk dd_X12_fingerprint_0 23 rfl) ?_
        refine V_iload_n h (dk dd_X12_fingerprint_0 24 rfl) rfl get3 ?_
        refine V_iadd h (dk dd_X12_fingerprint_0 25 rfl) ?_
        refine V_iald h 1 get1 (by omega) (dk dd_X12_fingerprint_0 26 rfl) ?_
        refine V_i2l h (dk dd_X12_fingerprint_0 27 rfl) (hV _ (by omega) (by omega) (by omega)) ?_
        refine V_ladd h (dk dd_X12_fingerprint_0 28 rfl) ?_
        refine V_lstore_n h (dk dd_X12_fingerprint_0 29 rfl) rfl (Nat.le_of_ble_eq_true rfl) rfl set1 set2 ?_
        refine V_iinc h (dk dd_X12_fingerprint_0 30 rfl) get3 (Nat.le_of_ble_eq_true rfl) rfl set3 ?_
        refine V_goto (tgt := 14) h (dk dd_X12_fingerprint_0 31 rfl) rfl ?_
        exact ih14 _ _ ⟨by omega, by omega, by rw [fold_s hi0, ← he]; rfl⟩ (by omega)
  exact L14 _ _ 0 ⟨by omega, by omega, rfl⟩ (Nat.lt_succ_self _)

