/-! constructors -/
set_option maxHeartbeats 4000000 in
set_option maxRecDepth 100000 in
theorem m_X4_init (l : Launch) (G : GT) (a : Nat)  : Ctr l G yX4_init cX4_init 1 none (rmO 1 1 48 20) [.ref a] [(a, .inr (3, [.null, .int (iZ 0)]))] (Mk (fun q => [(a, .inr (3, [.ref (q 0), .int (iZ 0)])), ((q 0), .inl (G.2 0, 48, .inl (iF z0)))])) := by
  refine Ctr.go (own := RX4) (nm := "<init>") (by decide +kernel) rfl rfl [some (.ref a)] 0 rfl rfl (Nat.le_of_ble_eq_true rfl) ?_
  intro K h hF
  refine V_aload_n h (dk dd_X4_init_0 0 rfl) rfl get0 ?_
  refine V_obj h q1_35 (dk dd_X4_init_0 1 rfl) ⟨Nat.le_of_ble_eq_true rfl, Nat.le_of_ble_eq_true rfl, Nat.le_of_ble_eq_true rfl, rfl⟩ ?_
  refine V_aload_n h (dk dd_X4_init_0 2 rfl) rfl get0 ?_
  refine V_bipush h (dk dd_X4_init_0 3 rfl) (by decide) ?_
  refine V_newa (atype := .int) (N := 48) (a0 := (48, .inl (iF z0))) h 0 rfl rfl q1_45 ra_int ar_int (by omega) rfl (Nat.le_of_ble_eq_true rfl) (⟨Nat.le_of_ble_eq_true rfl, Nat.le_of_ble_eq_true rfl⟩) (dk dd_X4_init_0 4 rfl) (fun n7 => ?_)
  refine V_putF h pf_X4_9 1 get1 (Nat.le_of_ble_eq_true rfl) set0 set1 rfl rfl (dk dd_X4_init_0 5 rfl) q1_36 ?_
  refine V_perm (is := [1, 0]) (pk_c get1 (pk_c get0 pk_n)) rfl ?_
  refine V_vret h hF (dk dd_X4_init_0 6 rfl) ⟨Nat.le_of_ble_eq_true rfl, Nat.le_of_ble_eq_true rfl⟩ ?_
  exact ⟨fun i => ([n7] : List Nat).getD i 0, rfl, rfl⟩

set_option maxHeartbeats 4000000 in
set_option maxRecDepth 100000 in
theorem m_X10_init (l : Launch) (G : GT) (a : Nat)  : Ctr l G yX10_init cX10_init 1 none (rmO 2 2 50 40) [.ref a] [(a, .inr (9, [.null, .int (iZ 0), .int (iZ 0)]))] (Mk (fun q => [(a, .inr (9, [.ref (q 0), .int (iZ 10), .int (iZ 1000)])), ((q 0), .inr (3, [.ref (q 1), .int (iZ 0)])), ((q 1), .inl (G.2 0, 48, .inl (iF z0)))])) := by
  refine Ctr.go (own := RX10) (nm := "<init>") (by decide +kernel) rfl rfl [some (.ref a)] 0 rfl rfl (Nat.le_of_ble_eq_true rfl) ?_
  intro K h hF
  refine V_aload_n h (dk dd_X10_init_0 0 rfl) rfl get0 ?_
  refine V_obj h q1_29 (dk dd_X10_init_0 1 rfl) ⟨Nat.le_of_ble_eq_true rfl, Nat.le_of_ble_eq_true rfl, Nat.le_of_ble_eq_true rfl, rfl⟩ ?_
  refine V_aload_n h (dk dd_X10_init_0 2 rfl) rfl get0 ?_
  refine V_new h nw_X10_7 (⟨Nat.le_of_ble_eq_true rfl, Nat.le_of_ble_eq_true rfl⟩) (dk dd_X10_init_0 3 rfl) (fun n5 => ?_)
  refine V_dup h (dk dd_X10_init_0 4 rfl) rfl ?_
  refine V_callI h st1 (Or.inr ci_X10_9) (pk_c get0 pk_n) rfl (m_X4_init l G _ ) rfl rfl (Nat.le_of_ble_eq_true rfl) (by decide) (⟨Nat.le_of_ble_eq_true rfl, Nat.le_of_ble_eq_true rfl⟩) (dk dd_X10_init_0 5 rfl) ?_
  rintro _ _ ⟨q9, rfl, rfl⟩
  refine ⟨[(n5, .inr (3, [.ref (q9 0), .int (iZ 0)]))], [((q9 0), .inl (G.2 0, 48, .inl (iF z0)))], _, rfl, rfl, (sm_c set0 sm_n), ?_⟩
  refine V_rot ?_
  simp only [List.cons_append, List.nil_append]
  refine V_putF h pf_X10_10 2 get2 (Nat.le_of_ble_eq_true rfl) set0 set2 rfl rfl (dk dd_X10_init_0 6 rfl) q1_46 ?_
  refine V_aload_n h (dk dd_X10_init_0 7 rfl) rfl get0 ?_
  refine V_bipush h (dk dd_X10_init_0 8 rfl) (by decide) ?_
  refine V_put h pf_X10_16 2 get2 (Nat.le_of_ble_eq_true rfl) set1 set2 rfl rfl (dk dd_X10_init_0 9 rfl) ?_
  refine V_aload_n h (dk dd_X10_init_0 10 rfl) rfl get0 ?_
  refine V_sipush h (dk dd_X10_init_0 11 rfl) (by decide) ?_
  refine V_put h pf_X10_20 2 get2 (Nat.le_of_ble_eq_true rfl) set2 set2 rfl rfl (dk dd_X10_init_0 12 rfl) ?_
  refine V_perm (is := [2, 1, 0]) (pk_c get2 (pk_c get1 (pk_c get0 pk_n))) rfl ?_
  refine V_vret h hF (dk dd_X10_init_0 13 rfl) ⟨Nat.le_of_ble_eq_true rfl, Nat.le_of_ble_eq_true rfl⟩ ?_
  exact ⟨fun i => ([n5, (q9 0)] : List Nat).getD i 0, rfl, rfl⟩

set_option maxHeartbeats 4000000 in
set_option maxRecDepth 100000 in
theorem m_X9_init (l : Launch) (G : GT) (a : Nat)  : Ctr l G yX9_init cX9_init 1 none (rmO 2 3 110 40) [.ref a] [(a, .inr (8, [.null, .null, .int (iZ 0), .int (iZ 0), .int (iZ 0), .int (iZ 0)]))] (Mk (fun q => [(a, .inr (8, [.ref (q 0), .ref (q 1), .int (iZ 0), .int (iZ 0), .int (iZ 0), .int (iZ 0)])), ((q 0), .inl (G.2 3, 60, .inl (iF z0))), ((q 1), .inr (3, [.ref (q 2), .int (iZ 0)])), ((q 2), .inl (G.2 0, 48, .inl (iF z0)))])) := by
  refine Ctr.go (own := RX9) (nm := "<init>") (by decide +kernel) rfl rfl [some (.ref a)] 0 rfl rfl (Nat.le_of_ble_eq_true rfl) ?_
  intro K h hF
  refine V_aload_n h (dk dd_X9_init_0 0 rfl) rfl get0 ?_
  refine V_obj h q1_84 (dk dd_X9_init_0 1 rfl) ⟨Nat.le_of_ble_eq_true rfl, Nat.le_of_ble_eq_true rfl, Nat.le_of_ble_eq_true rfl, rfl⟩ ?_
  refine V_aload_n h (dk dd_X9_init_0 2 rfl) rfl get0 ?_
  refine V_bipush h (dk dd_X9_init_0 3 rfl) (by decide) ?_
  refine V_newa (atype := .char) (N := 60) (a0 := (60, .inl (iF z0))) h 3 rfl rfl q1_104 ra_char ar_char (by omega) rfl (Nat.le_of_ble_eq_true rfl) (⟨Nat.le_of_ble_eq_true rfl, Nat.le_of_ble_eq_true rfl⟩) (dk dd_X9_init_0 4 rfl) (fun n7 => ?_)
  refine V_putF h pf_X9_9 1 get1 (Nat.le_of_ble_eq_true rfl) set0 set1 rfl rfl (dk dd_X9_init_0 5 rfl) q1_87 ?_
  refine V_aload_n h (dk dd_X9_init_0 6 rfl) rfl get0 ?_
  refine V_new h nw_X9_15 (⟨Nat.le_of_ble_eq_true rfl, Nat.le_of_ble_eq_true rfl⟩) (dk dd_X9_init_0 7 rfl) (fun n13 => ?_)
  refine V_dup h (dk dd_X9_init_0 8 rfl) rfl ?_
  refine V_callI h st1 (Or.inr ci_X9_17) (pk_c get0 pk_n) rfl (m_X4_init l G _ ) rfl rfl (Nat.le_of_ble_eq_true rfl) (by decide) (⟨Nat.le_of_ble_eq_true rfl, Nat.le_of_ble_eq_true rfl⟩) (dk dd_X9_init_0 9 rfl) ?_
  rintro _ _ ⟨q17, rfl, rfl⟩
  refine ⟨[(n13, .inr (3, [.ref (q17 0), .int (iZ 0)]))], [((q17 0), .inl (G.2 0, 48, .inl (iF z0)))], _, rfl, rfl, (sm_c set0 sm_n), ?_⟩
  refine V_rot ?_
  simp only [List.cons_append, List.nil_append]
  refine V_putF h pf_X9_18 3 get3 (Nat.le_of_ble_eq_true rfl) set1 set3 rfl rfl (dk dd_X9_init_0 10 rfl) q1_88 ?_
  refine V_perm (is := [3, 2, 1, 0]) (pk_c get3 (pk_c get2 (pk_c get1 (pk_c get0 pk_n)))) rfl ?_
  refine V_vret h hF (dk dd_X9_init_0 11 rfl) ⟨Nat.le_of_ble_eq_true rfl, Nat.le_of_ble_eq_true rfl⟩ ?_
  exact ⟨fun i => ([n7, n13, (q17 0)] : List Nat).getD i 0, rfl, rfl⟩

set_option maxHeartbeats 4000000 in
set_option maxRecDepth 100000 in
theorem m_X7_init (l : Launch) (G : GT) (a : Nat) (i : Int)  : Ctr l G yX7_init cX7_init 2 none (rmO 1 0 0 20) [.ref a, .int (iZ i)] [(a, .inr (6, [.int (iZ 0), .int (iZ 0), .int (iZ 0), .int (iZ 0), .long (lZ 0), .int (iZ 0)]))] (Det none [(a, .inr (6, [.int (iZ i), .int (iZ 0), .int (iZ 0), .int (iZ 0), .long (lZ 0), .int (iZ 0)]))]) := by
  refine Ctr.go (own := RX7) (nm := "<init>") (by decide +kernel) rfl rfl [some (.ref a), some (.int (iZ i))] 0 rfl rfl (Nat.le_of_ble_eq_true rfl) ?_
  intro K h hF
  refine V_aload_n h (dk dd_X7_init_0 0 rfl) rfl get0 ?_
  refine V_obj h q1_183 (dk dd_X7_init_0 1 rfl) ⟨Nat.le_of_ble_eq_true rfl, Nat.le_of_ble_eq_true rfl, Nat.le_of_ble_eq_true rfl, rfl⟩ ?_
  refine V_aload_n h (dk dd_X7_init_0 2 rfl) rfl get0 ?_
  refine V_iload_n h (dk dd_X7_init_0 3 rfl) rfl get1 ?_
  refine V_putF h pf_X7_7 0 get0 (Nat.le_of_ble_eq_true rfl) set0 set0 rfl rfl (dk dd_X7_init_0 4 rfl) q1_184 ?_
  refine V_vret h hF (dk dd_X7_init_0 5 rfl) ⟨Nat.le_of_ble_eq_true rfl, Nat.le_of_ble_eq_true rfl⟩ ?_
  exact det_v rfl

set_option maxHeartbeats 4000000 in
set_option maxRecDepth 100000 in
theorem m_X3_init (l : Launch) (G : GT) (a : Nat)  : Ctr l G yX3_init cX3_init 1 none (rmO 1 2 3600 20) [.ref a] [(a, .inr (2, [.null, .null, .int (iZ 0), .int (iZ 0), .long (lZ 0)]))] (Mk (fun q => [(a, .inr (2, [.ref (q 0), .ref (q 1), .int (iZ 0), .int (iZ 0), .long (lZ 0)])), ((q 0), .inl (G.2 1, 3000, .inr (.inl (lF z0)))), ((q 1), .inl (G.2 0, 600, .inl (iF z0)))])) := by
  refine Ctr.go (own := RX3) (nm := "<init>") (by decide +kernel) rfl rfl [some (.ref a)] 0 rfl rfl (Nat.le_of_ble_eq_true rfl) ?_
  intro K h hF
  refine V_aload_n h (dk dd_X3_init_0 0 rfl) rfl get0 ?_
  refine V_obj h q1_118 (dk dd_X3_init_0 1 rfl) ⟨Nat.le_of_ble_eq_true rfl, Nat.le_of_ble_eq_true rfl, Nat.le_of_ble_eq_true rfl, rfl⟩ ?_
  refine V_aload_n h (dk dd_X3_init_0 2 rfl) rfl get0 ?_
  refine V_sipush h (dk dd_X3_init_0 3 rfl) (by decide) ?_
  refine V_newa (atype := .long) (N := 3000) (a0 := (3000, .inr (.inl (lF z0)))) h 1 rfl rfl q1_136 ra_long ar_long (by omega) rfl (Nat.le_of_ble_eq_true rfl) (⟨Nat.le_of_ble_eq_true rfl, Nat.le_of_ble_eq_true rfl⟩) (dk dd_X3_init_0 4 rfl) (fun n8 => ?_)
  refine V_putF h pf_X3_9 1 get1 (Nat.le_of_ble_eq_true rfl) set0 set1 rfl rfl (dk dd_X3_init_0 5 rfl) q1_119 ?_
  refine V_aload_n h (dk dd_X3_init_0 6 rfl) rfl get0 ?_
  refine V_sipush h (dk dd_X3_init_0 7 rfl) (by decide) ?_
  refine V_newa (atype := .int) (N := 600) (a0 := (600, .inl (iF z0))) h 0 rfl rfl q1_45 ra_int ar_int (by omega) rfl (Nat.le_of_ble_eq_true rfl) (⟨Nat.le_of_ble_eq_true rfl, Nat.le_of_ble_eq_true rfl⟩) (dk dd_X3_init_0 8 rfl) (fun n17 => ?_)
  refine V_putF h pf_X3_15 2 get2 (Nat.le_of_ble_eq_true rfl) set1 set2 rfl rfl (dk dd_X3_init_0 9 rfl) q1_120 ?_
  refine V_perm (is := [2, 1, 0]) (pk_c get2 (pk_c get1 (pk_c get0 pk_n))) rfl ?_
  refine V_vret h hF (dk dd_X3_init_0 10 rfl) ⟨Nat.le_of_ble_eq_true rfl, Nat.le_of_ble_eq_true rfl⟩ ?_
  exact ⟨fun i => ([n8, n17] : List Nat).getD i 0, rfl, rfl⟩

set_option maxHeartbeats 4000000 in
set_option maxRecDepth 100000 in
theorem m_X6_init (l : Launch) (G : GT) (a : Nat)  : Ctr l G yX6_init cX6_init 1 none (rmO 1 1 434 20) [.ref a] [(a, .inr (5, [.null, .int (iZ 0)]))] (Mk (fun q => [(a, .inr (5, [.ref (q 0), .int (iZ 0)])), ((q 0), .inl (G.2 1, 434, .inr (.inl (lF z0))))])) := by
  refine Ctr.go (own := RX6) (nm := "<init>") (by decide +kernel) rfl rfl [some (.ref a)] 0 rfl rfl (Nat.le_of_ble_eq_true rfl) ?_
  intro K h hF
  refine V_aload_n h (dk dd_X6_init_0 0 rfl) rfl get0 ?_
  refine V_obj h q1_142 (dk dd_X6_init_0 1 rfl) ⟨Nat.le_of_ble_eq_true rfl, Nat.le_of_ble_eq_true rfl, Nat.le_of_ble_eq_true rfl, rfl⟩ ?_
  refine V_aload_n h (dk dd_X6_init_0 2 rfl) rfl get0 ?_
  refine V_sipush h (dk dd_X6_init_0 3 rfl) (by decide) ?_
  refine V_newa (atype := .long) (N := 434) (a0 := (434, .inr (.inl (lF z0)))) h 1 rfl rfl q1_136 ra_long ar_long (by omega) rfl (Nat.le_of_ble_eq_true rfl) (⟨Nat.le_of_ble_eq_true rfl, Nat.le_of_ble_eq_true rfl⟩) (dk dd_X6_init_0 4 rfl) (fun n8 => ?_)
  refine V_putF h pf_X6_9 1 get1 (Nat.le_of_ble_eq_true rfl) set0 set1 rfl rfl (dk dd_X6_init_0 5 rfl) q1_143 ?_
  refine V_perm (is := [1, 0]) (pk_c get1 (pk_c get0 pk_n)) rfl ?_
  refine V_vret h hF (dk dd_X6_init_0 6 rfl) ⟨Nat.le_of_ble_eq_true rfl, Nat.le_of_ble_eq_true rfl⟩ ?_
  exact ⟨fun i => ([n8] : List Nat).getD i 0, rfl, rfl⟩

set_option maxHeartbeats 4000000 in
set_option maxRecDepth 100000 in
theorem m_X1_init (l : Launch) (G : GT) (a : Nat)  : Ctr l G yX1_init cX1_init 1 none (rmO 1 1 48 22) [.ref a] [(a, .inr (0, [.null]))] (Mk (fun q => [(a, .inr (0, [.ref (q 0)])), ((q 0), .inl (G.2 1, 48, .inr (.inl (lF (ear0 z0 12)))))])) := by
  refine Ctr.go (own := RX1) (nm := "<init>") (by decide +kernel) rfl rfl [some (.ref a)] 0 rfl rfl (Nat.le_of_ble_eq_true rfl) ?_
  intro K h hF
  refine V_aload_n h (dk dd_X1_init_0 0 rfl) rfl get0 ?_
  refine V_obj h q1_156 (dk dd_X1_init_0 1 rfl) ⟨Nat.le_of_ble_eq_true rfl, Nat.le_of_ble_eq_true rfl, Nat.le_of_ble_eq_true rfl, rfl⟩ ?_
  refine V_aload_n h (dk dd_X1_init_0 2 rfl) rfl get0 ?_
  refine V_bipush h (dk dd_X1_init_0 3 rfl) (by decide) ?_
  refine V_newa (atype := .long) (N := 48) (a0 := (48, .inr (.inl (lF z0)))) h 1 rfl rfl q1_136 ra_long ar_long (by omega) rfl (Nat.le_of_ble_eq_true rfl) (⟨Nat.le_of_ble_eq_true rfl, Nat.le_of_ble_eq_true rfl⟩) (dk dd_X1_init_0 4 rfl) (fun n7 => ?_)
  refine V_putF h pf_X1_9 1 get1 (Nat.le_of_ble_eq_true rfl) set0 set1 rfl rfl (dk dd_X1_init_0 5 rfl) q1_162 ?_
  refine V_aload_n h (dk dd_X1_init_0 6 rfl) rfl get0 ?_
  refine V_callVc h st1 ci_X1_15 (pk_c get1 (pk_c get0 pk_n)) rfl 1 get1 (m_X1_forget l G _ _ _ ) rfl rfl rfl (by decide) (Nat.le_of_ble_eq_true rfl) ⟨rfl, rfl⟩ ⟨Nat.le_of_ble_eq_true rfl, Nat.le_of_ble_eq_true rfl⟩ (dk dd_X1_init_0 7 rfl) sk0 (sm_c set1 (sm_c set0 sm_n)) ?_
  refine V_perm (is := [1, 0]) (pk_c get1 (pk_c get0 pk_n)) rfl ?_
  refine V_vret h hF (dk dd_X1_init_0 8 rfl) ⟨Nat.le_of_ble_eq_true rfl, Nat.le_of_ble_eq_true rfl⟩ ?_
  exact ⟨fun i => ([n7] : List Nat).getD i 0, rfl, rfl⟩

set_option maxHeartbeats 4000000 in
set_option maxRecDepth 100000 in
theorem m_X5_init (l : Launch) (G : GT) (a : Nat)  : Ctr l G yX5_init cX5_init 1 none (rmO 1 1 201 20) [.ref a] [(a, .inr (4, [.null, .int (iZ 0)]))] (Mk (fun q => [(a, .inr (4, [.ref (q 0), .int (iZ 0)])), ((q 0), .inl (G.2 0, 201, .inl (iF z0)))])) := by
  refine Ctr.go (own := RX5) (nm := "<init>") (by decide +kernel) rfl rfl [some (.ref a)] 0 rfl rfl (Nat.le_of_ble_eq_true rfl) ?_
  intro K h hF
  refine V_aload_n h (dk dd_X5_init_0 0 rfl) rfl get0 ?_
  refine V_obj h q1_171 (dk dd_X5_init_0 1 rfl) ⟨Nat.le_of_ble_eq_true rfl, Nat.le_of_ble_eq_true rfl, Nat.le_of_ble_eq_true rfl, rfl⟩ ?_
  refine V_aload_n h (dk dd_X5_init_0 2 rfl) rfl get0 ?_
  refine V_sipush h (dk dd_X5_init_0 3 rfl) (by decide) ?_
  refine V_newa (atype := .int) (N := 201) (a0 := (201, .inl (iF z0))) h 0 rfl rfl q1_45 ra_int ar_int (by omega) rfl (Nat.le_of_ble_eq_true rfl) (⟨Nat.le_of_ble_eq_true rfl, Nat.le_of_ble_eq_true rfl⟩) (dk dd_X5_init_0 4 rfl) (fun n8 => ?_)
  refine V_putF h pf_X5_9 1 get1 (Nat.le_of_ble_eq_true rfl) set0 set1 rfl rfl (dk dd_X5_init_0 5 rfl) q1_172 ?_
  refine V_perm (is := [1, 0]) (pk_c get1 (pk_c get0 pk_n)) rfl ?_
  refine V_vret h hF (dk dd_X5_init_0 6 rfl) ⟨Nat.le_of_ble_eq_true rfl, Nat.le_of_ble_eq_true rfl⟩ ?_
  exact ⟨fun i => ([n8] : List Nat).getD i 0, rfl, rfl⟩

