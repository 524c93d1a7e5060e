/-! constructors: history, shot, GalleryRays whole, the reference -/
set_option maxHeartbeats 4000000 in
set_option maxRecDepth 100000 in
theorem m_X2_init (l : Launch) (G : GT) (a : Nat)  : Ctr l G yX2_init cX2_init 2 none (rmO 3 16 270 60) [.ref a] [(a, .inr (1, [.null, .int (iZ 0)]))] (Mk (fun q => [(a, .inr (1, [.ref (q 0), .int (iZ 0)])), ((q 0), .inl (G.2 5, 5, .inr (.inr (.inr (.inr (arr5 (fun i => ([(q 1), (q 4), (q 7), (q 10), (q 13)] : List Nat).getD i 0))))))), ((q 1), .inr (9, [.ref (q 2), .int (iZ 10), .int (iZ 1000)])), ((q 2), .inr (3, [.ref (q 3), .int (iZ 0)])), ((q 3), .inl (G.2 0, 48, .inl (iF z0))), ((q 4), .inr (9, [.ref (q 5), .int (iZ 10), .int (iZ 1000)])), ((q 5), .inr (3, [.ref (q 6), .int (iZ 0)])), ((q 6), .inl (G.2 0, 48, .inl (iF z0))), ((q 7), .inr (9, [.ref (q 8), .int (iZ 10), .int (iZ 1000)])), ((q 8), .inr (3, [.ref (q 9), .int (iZ 0)])), ((q 9), .inl (G.2 0, 48, .inl (iF z0))), ((q 10), .inr (9, [.ref (q 11), .int (iZ 10), .int (iZ 1000)])), ((q 11), .inr (3, [.ref (q 12), .int (iZ 0)])), ((q 12), .inl (G.2 0, 48, .inl (iF z0))), ((q 13), .inr (9, [.ref (q 14), .int (iZ 10), .int (iZ 1000)])), ((q 14), .inr (3, [.ref (q 15), .int (iZ 0)])), ((q 15), .inl (G.2 0, 48, .inl (iF z0)))])) := by
  refine Ctr.go (own := RX2) (nm := "<init>") (by decide +kernel) rfl rfl [some (.ref a), none] 1 rfl rfl (Nat.le_of_ble_eq_true rfl) ?_
  intro K h hF
  refine V_aload_n h (dk dd_X2_init_0 0 rfl) rfl get0 ?_
  refine V_obj h q1_67 (dk dd_X2_init_0 1 rfl) ⟨Nat.le_of_ble_eq_true rfl, Nat.le_of_ble_eq_true rfl, Nat.le_of_ble_eq_true rfl, rfl⟩ ?_
  refine V_aload_n h (dk dd_X2_init_0 2 rfl) rfl get0 ?_
  refine V_iconst h (dk dd_X2_init_0 3 rfl) ?_
  refine V_newq (N := 5) h 5 rfl q1_68 (fun _ h => h.2.2.2) (by omega) rfl (Nat.le_of_ble_eq_true rfl) (⟨Nat.le_of_ble_eq_true rfl, Nat.le_of_ble_eq_true rfl⟩) (dk dd_X2_init_0 4 rfl) (fun n6 => ?_)
  refine V_putF h pf_X2_11 1 get1 (Nat.le_of_ble_eq_true rfl) set0 set1 rfl rfl (dk dd_X2_init_0 5 rfl) q1_71 ?_
  refine V_iconst h (dk dd_X2_init_0 6 rfl) ?_
  refine V_istore_n h (dk dd_X2_init_0 7 rfl) rfl (Nat.le_of_ble_eq_true rfl) rfl set1 ?_
  refine V_iload_n h (dk dd_X2_init_0 8 rfl) rfl get1 ?_
  refine V_aload_n h (dk dd_X2_init_0 9 rfl) rfl get0 ?_
  refine V_get h fl_X2_11 1 get1 get0 (dk dd_X2_init_0 10 rfl) ?_
  refine V_alen h 0 get0 5 rfl (dk dd_X2_init_0 11 rfl) ?_
  refine V_icmp_ge (tgt := 42) h (dk dd_X2_init_0 12 rfl) rfl (by omega) (fun c20 => ?_) (fun c20 => ?_)
  · exfalso; omega
  · refine V_aload_n h (dk dd_X2_init_0 13 rfl) rfl get0 ?_
    refine V_get h fl_X2_11 1 get1 get0 (dk dd_X2_init_0 14 rfl) ?_
    refine V_iload_n h (dk dd_X2_init_0 15 rfl) rfl get1 ?_
    refine V_new h nw_X2_9 (⟨Nat.le_of_ble_eq_true rfl, Nat.le_of_ble_eq_true rfl⟩) (dk dd_X2_init_0 16 rfl) (fun n28 => ?_)
    refine V_dup h (dk dd_X2_init_0 17 rfl) rfl ?_
    refine V_callI h st1 (Or.inr ci_X2_17) (pk_c get0 pk_n) rfl (m_X10_init l G _ ) rfl rfl (Nat.le_of_ble_eq_true rfl) (by decide) (⟨Nat.le_of_ble_eq_true rfl, Nat.le_of_ble_eq_true rfl⟩) (dk dd_X2_init_0 18 rfl) ?_
    rintro _ _ ⟨q32, rfl, rfl⟩
    refine ⟨[(n28, .inr (9, [.ref (q32 0), .int (iZ 10), .int (iZ 1000)]))], [((q32 0), .inr (3, [.ref (q32 1), .int (iZ 0)])), ((q32 1), .inl (G.2 0, 48, .inl (iF z0)))], _, rfl, rfl, (sm_c set0 sm_n), ?_⟩
    refine V_rot ?_
    simp only [List.cons_append, List.nil_append]
    refine V_aast (r := (RX10, TX10, 3)) h 3 5 2 get3 rfl get2 rfl (by omega) set3 (dk dd_X2_init_0 19 rfl) ?_
    refine V_iinc h (dk dd_X2_init_0 20 rfl) get1 (Nat.le_of_ble_eq_true rfl) rfl set1 ?_
    refine V_goto (tgt := 14) h (dk dd_X2_init_0 21 rfl) rfl ?_
    refine V_iload_n h (dk dd_X2_init_0 8 rfl) rfl get1 ?_
    refine V_aload_n h (dk dd_X2_init_0 9 rfl) rfl get0 ?_
    refine V_get h fl_X2_11 4 get4 get0 (dk dd_X2_init_0 10 rfl) ?_
    refine V_alen h 3 get3 5 rfl (dk dd_X2_init_0 11 rfl) ?_
    refine V_icmp_ge (tgt := 42) h (dk dd_X2_init_0 12 rfl) rfl (by omega) (fun c20_2 => ?_) (fun c20_2 => ?_)
    · exfalso; omega
    · refine V_aload_n h (dk dd_X2_init_0 13 rfl) rfl get0 ?_
      refine V_get h fl_X2_11 4 get4 get0 (dk dd_X2_init_0 14 rfl) ?_
      refine V_iload_n h (dk dd_X2_init_0 15 rfl) rfl get1 ?_
      refine V_new h nw_X2_9 (⟨Nat.le_of_ble_eq_true rfl, Nat.le_of_ble_eq_true rfl⟩) (dk dd_X2_init_0 16 rfl) (fun n28_2 => ?_)
      refine V_dup h (dk dd_X2_init_0 17 rfl) rfl ?_
      refine V_callI h st1 (Or.inr ci_X2_17) (pk_c get0 pk_n) rfl (m_X10_init l G _ ) rfl rfl (Nat.le_of_ble_eq_true rfl) (by decide) (⟨Nat.le_of_ble_eq_true rfl, Nat.le_of_ble_eq_true rfl⟩) (dk dd_X2_init_0 18 rfl) ?_
      rintro _ _ ⟨q32_2, rfl, rfl⟩
      refine ⟨[(n28_2, .inr (9, [.ref (q32_2 0), .int (iZ 10), .int (iZ 1000)]))], [((q32_2 0), .inr (3, [.ref (q32_2 1), .int (iZ 0)])), ((q32_2 1), .inl (G.2 0, 48, .inl (iF z0)))], _, rfl, rfl, (sm_c set0 sm_n), ?_⟩
      refine V_rot ?_
      simp only [List.cons_append, List.nil_append]
      refine V_aast (r := (RX10, TX10, 3)) h 6 5 2 get6 rfl get2 rfl (by omega) set6 (dk dd_X2_init_0 19 rfl) ?_
      refine V_iinc h (dk dd_X2_init_0 20 rfl) get1 (Nat.le_of_ble_eq_true rfl) rfl set1 ?_
      refine V_goto (tgt := 14) h (dk dd_X2_init_0 21 rfl) rfl ?_
      refine V_iload_n h (dk dd_X2_init_0 8 rfl) rfl get1 ?_
      refine V_aload_n h (dk dd_X2_init_0 9 rfl) rfl get0 ?_
      refine V_get h fl_X2_11 7 get7 get0 (dk dd_X2_init_0 10 rfl) ?_
      refine V_alen h 6 get6 5 rfl (dk dd_X2_init_0 11 rfl) ?_
      refine V_icmp_ge (tgt := 42) h (dk dd_X2_init_0 12 rfl) rfl (by omega) (fun c20_3 => ?_) (fun c20_3 => ?_)
      · exfalso; omega
      · refine V_aload_n h (dk dd_X2_init_0 13 rfl) rfl get0 ?_
        refine V_get h fl_X2_11 7 get7 get0 (dk dd_X2_init_0 14 rfl) ?_
        refine V_iload_n h (dk dd_X2_init_0 15 rfl) rfl get1 ?_
        refine V_new h nw_X2_9 (⟨Nat.le_of_ble_eq_true rfl, Nat.le_of_ble_eq_true rfl⟩) (dk dd_X2_init_0 16 rfl) (fun n28_3 => ?_)
        refine V_dup h (dk dd_X2_init_0 17 rfl) rfl ?_
        refine V_callI h st1 (Or.inr ci_X2_17) (pk_c get0 pk_n) rfl (m_X10_init l G _ ) rfl rfl (Nat.le_of_ble_eq_true rfl) (by decide) (⟨Nat.le_of_ble_eq_true rfl, Nat.le_of_ble_eq_true rfl⟩) (dk dd_X2_init_0 18 rfl) ?_
        rintro _ _ ⟨q32_3, rfl, rfl⟩
        refine ⟨[(n28_3, .inr (9, [.ref (q32_3 0), .int (iZ 10), .int (iZ 1000)]))], [((q32_3 0), .inr (3, [.ref (q32_3 1), .int (iZ 0)])), ((q32_3 1), .inl (G.2 0, 48, .inl (iF z0)))], _, rfl, rfl, (sm_c set0 sm_n), ?_⟩
        refine V_rot ?_
        simp only [List.cons_append, List.nil_append]
        refine V_aast (r := (RX10, TX10, 3)) h 9 5 2 get9 rfl get2 rfl (by omega) set9 (dk dd_X2_init_0 19 rfl) ?_
        refine V_iinc h (dk dd_X2_init_0 20 rfl) get1 (Nat.le_of_ble_eq_true rfl) rfl set1 ?_
        refine V_goto (tgt := 14) h (dk dd_X2_init_0 21 rfl) rfl ?_
        refine V_iload_n h (dk dd_X2_init_0 8 rfl) rfl get1 ?_
        refine V_aload_n h (dk dd_X2_init_0 9 rfl) rfl get0 ?_
        refine V_get h fl_X2_11 10 get10 get0 (dk dd_X2_init_0 10 rfl) ?_
        refine V_alen h 9 get9 5 rfl (dk dd_X2_init_0 11 rfl) ?_
        refine V_icmp_ge (tgt := 42) h (dk dd_X2_init_0 12 rfl) rfl (by omega) (fun c20_4 => ?_) (fun c20_4 => ?_)
        · exfalso; omega
        · refine V_aload_n h (dk dd_X2_init_0 13 rfl) rfl get0 ?_
          refine V_get h fl_X2_11 10 get10 get0 (dk dd_X2_init_0 14 rfl) ?_
          refine V_iload_n h (dk dd_X2_init_0 15 rfl) rfl get1 ?_
          refine V_new h nw_X2_9 (⟨Nat.le_of_ble_eq_true rfl, Nat.le_of_ble_eq_true rfl⟩) (dk dd_X2_init_0 16 rfl) (fun n28_4 => ?_)
          refine V_dup h (dk dd_X2_init_0 17 rfl) rfl ?_
          refine V_callI h st1 (Or.inr ci_X2_17) (pk_c get0 pk_n) rfl (m_X10_init l G _ ) rfl rfl (Nat.le_of_ble_eq_true rfl) (by decide) (⟨Nat.le_of_ble_eq_true rfl, Nat.le_of_ble_eq_true rfl⟩) (dk dd_X2_init_0 18 rfl) ?_
          rintro _ _ ⟨q32_4, rfl, rfl⟩
          refine ⟨[(n28_4, .inr (9, [.ref (q32_4 0), .int (iZ 10), .int (iZ 1000)]))], [((q32_4 0), .inr (3, [.ref (q32_4 1), .int (iZ 0)])), ((q32_4 1), .inl (G.2 0, 48, .inl (iF z0)))], _, rfl, rfl, (sm_c set0 sm_n), ?_⟩
          refine V_rot ?_
          simp only [List.cons_append, List.nil_append]
          refine V_aast (r := (RX10, TX10, 3)) h 12 5 2 get12 rfl get2 rfl (by omega) set12 (dk dd_X2_init_0 19 rfl) ?_
          refine V_iinc h (dk dd_X2_init_0 20 rfl) get1 (Nat.le_of_ble_eq_true rfl) rfl set1 ?_
          refine V_goto (tgt := 14) h (dk dd_X2_init_0 21 rfl) rfl ?_
          refine V_iload_n h (dk dd_X2_init_0 8 rfl) rfl get1 ?_
          refine V_aload_n h (dk dd_X2_init_0 9 rfl) rfl get0 ?_
          refine V_get h fl_X2_11 13 get13 get0 (dk dd_X2_init_0 10 rfl) ?_
          refine V_alen h 12 get12 5 rfl (dk dd_X2_init_0 11 rfl) ?_
          refine V_icmp_ge (tgt := 42) h (dk dd_X2_init_0 12 rfl) rfl (by omega) (fun c20_5 => ?_) (fun c20_5 => ?_)
          · exfalso; omega
          · refine V_aload_n h (dk dd_X2_init_0 13 rfl) rfl get0 ?_
            refine V_get h fl_X2_11 13 get13 get0 (dk dd_X2_init_0 14 rfl) ?_
            refine V_iload_n h (dk dd_X2_init_0 15 rfl) rfl get1 ?_
            refine V_new h nw_X2_9 (⟨Nat.le_of_ble_eq_true rfl, Nat.le_of_ble_eq_true rfl⟩) (dk dd_X2_init_0 16 rfl) (fun n28_5 => ?_)
            refine V_dup h (dk dd_X2_init_0 17 rfl) rfl ?_
            refine V_callI h st1 (Or.inr ci_X2_17) (pk_c get0 pk_n) rfl (m_X10_init l G _ ) rfl rfl (Nat.le_of_ble_eq_true rfl) (by decide) (⟨Nat.le_of_ble_eq_true rfl, Nat.le_of_ble_eq_true rfl⟩) (dk dd_X2_init_0 18 rfl) ?_
            rintro _ _ ⟨q32_5, rfl, rfl⟩
            refine ⟨[(n28_5, .inr (9, [.ref (q32_5 0), .int (iZ 10), .int (iZ 1000)]))], [((q32_5 0), .inr (3, [.ref (q32_5 1), .int (iZ 0)])), ((q32_5 1), .inl (G.2 0, 48, .inl (iF z0)))], _, rfl, rfl, (sm_c set0 sm_n), ?_⟩
            refine V_rot ?_
            simp only [List.cons_append, List.nil_append]
            refine V_aast (r := (RX10, TX10, 3)) h 15 5 2 get15 rfl get2 rfl (by omega) set15 (dk dd_X2_init_0 19 rfl) ?_
            refine V_iinc h (dk dd_X2_init_0 20 rfl) get1 (Nat.le_of_ble_eq_true rfl) rfl set1 ?_
            refine V_goto (tgt := 14) h (dk dd_X2_init_0 21 rfl) rfl ?_
            refine V_iload_n h (dk dd_X2_init_0 8 rfl) rfl get1 ?_
            refine V_aload_n h (dk dd_X2_init_0 9 rfl) rfl get0 ?_
            refine V_get h fl_X2_11 16 get16 get0 (dk dd_X2_init_0 10 rfl) ?_
            refine V_alen h 15 get15 5 rfl (dk dd_X2_init_0 11 rfl) ?_
            refine V_icmp_ge (tgt := 42) h (dk dd_X2_init_0 12 rfl) rfl (by omega) (fun c20_6 => ?_) (fun c20_6 => ?_)
            · have e5 : va_up (va_up (va_up (va_up (va_up (fun _ => none) (0 : Int).toNat (some n28)) (0 + 1 : Int).toNat (some n28_2)) (0 + 1 + 1 : Int).toNat (some n28_3)) (0 + 1 + 1 + 1 : Int).toNat (some n28_4)) (0 + 1 + 1 + 1 + 1 : Int).toNat (some n28_5) = arr5 (fun i => ([n28, n28_2, n28_3, n28_4, n28_5] : List Nat).getD i 0) := arr5_mk
              rw [e5]
              refine V_perm (is := [16, 15, 14, 12, 13, 11, 9, 10, 8, 6, 7, 5, 3, 4, 2, 0, 1]) (pk_c get16 (pk_c get15 (pk_c get14 (pk_c get12 (pk_c get13 (pk_c get11 (pk_c get9 (pk_c get10 (pk_c get8 (pk_c get6 (pk_c get7 (pk_c get5 (pk_c get3 (pk_c get4 (pk_c get2 (pk_c get0 (pk_c get1 pk_n))))))))))))))))) rfl ?_
              refine V_vret h hF (dk dd_X2_init_0 22 rfl) ⟨Nat.le_of_ble_eq_true rfl, Nat.le_of_ble_eq_true rfl⟩ ?_
              exact ⟨fun i => ([n6, n28, (q32 0), (q32 1), n28_2, (q32_2 0), (q32_2 1), n28_3, (q32_3 0), (q32_3 1), n28_4, (q32_4 0), (q32_4 1), n28_5, (q32_5 0), (q32_5 1)] : List Nat).getD i 0, rfl, rfl⟩
            · exfalso; omega

set_option maxHeartbeats 4000000 in
set_option maxRecDepth 100000 in
theorem m_X8_init (l : Launch) (G : GT) (a : Nat)  : Ctr l G yX8_init cX8_init 2 none (rmO 2 110 4993 42) [.ref a] [(a, .inr (7, [.null, .null, .null, .null, .null, .int (iZ 0)]))] (Mk (fun q => ((a, .inr (7, [.ref (q 0), .ref (q 1), .ref (q 4), .ref (q 6), .ref (q 8), .int (iZ 0)])) :: ((q 0), .inl (G.2 4, 100, .inr (.inr (.inr (.inr (rayA (fun j : Int => q (100 + j.toNat)))))))) :: ((q 1), .inr (2, [.ref (q 2), .ref (q 3), .int (iZ 0), .int (iZ 0), .long (lZ 0)])) :: ((q 2), .inl (G.2 1, 3000, .inr (.inl (lF z0)))) :: ((q 3), .inl (G.2 0, 600, .inl (iF z0))) :: ((q 4), .inr (5, [.ref (q 5), .int (iZ 0)])) :: ((q 5), .inl (G.2 1, 434, .inr (.inl (lF z0)))) :: ((q 6), .inr (0, [.ref (q 7)])) :: ((q 7), .inl (G.2 1, 48, .inr (.inl (lF (ear0 z0 12))))) :: ((q 8), .inr (4, [.ref (q 9), .int (iZ 0)])) :: ((q 9), .inl (G.2 0, 201, .inl (iF z0))) :: raysW (fun j : Int => q (100 + j.toNat)) (fun _ => 0) (fun _ => 0) (fun _ => 0) (fun _ => 0) (fun _ => 0)))) := by
  refine Ctr.go (own := RX8) (nm := "<init>") (by decide +kernel) rfl rfl [some (.ref a), none] 1 rfl rfl (Nat.le_of_ble_eq_true rfl) ?_
  intro K h hF
  refine V_aload_n h (dk dd_X8_init_0 0 rfl) rfl get0 ?_
  refine V_obj h q1_110 (dk dd_X8_init_0 1 rfl) ⟨Nat.le_of_ble_eq_true rfl, Nat.le_of_ble_eq_true rfl, Nat.le_of_ble_eq_true rfl, rfl⟩ ?_
  refine V_aload_n h (dk dd_X8_init_0 2 rfl) rfl get0 ?_
  refine V_bipush h (dk dd_X8_init_0 3 rfl) (by decide) ?_
  refine V_newq (N := 100) h 4 rfl q1_111 (fun _ h => h.2.2.1) (by omega) rfl (Nat.le_of_ble_eq_true rfl) (⟨Nat.le_of_ble_eq_true rfl, Nat.le_of_ble_eq_true rfl⟩) (dk dd_X8_init_0 4 rfl) (fun n7 => ?_)
  refine V_putF h pf_X8_11 1 get1 (Nat.le_of_ble_eq_true rfl) set0 set1 rfl rfl (dk dd_X8_init_0 5 rfl) q1_216 ?_
  refine V_aload_n h (dk dd_X8_init_0 6 rfl) rfl get0 ?_
  refine V_new h nw_X8_17 (⟨Nat.le_of_ble_eq_true rfl, Nat.le_of_ble_eq_true rfl⟩) (dk dd_X8_init_0 7 rfl) (fun n14 => ?_)
  refine V_dup h (dk dd_X8_init_0 8 rfl) rfl ?_
  refine V_callI h st1 (Or.inr ci_X8_19) (pk_c get0 pk_n) rfl (m_X3_init l G _ ) rfl rfl (Nat.le_of_ble_eq_true rfl) (by decide) (⟨Nat.le_of_ble_eq_true rfl, Nat.le_of_ble_eq_true rfl⟩) (dk dd_X8_init_0 9 rfl) ?_
  rintro _ _ ⟨q18, rfl, rfl⟩
  refine ⟨[(n14, .inr (2, [.ref (q18 0), .ref (q18 1), .int (iZ 0), .int (iZ 0), .long (lZ 0)]))], [((q18 0), .inl (G.2 1, 3000, .inr (.inl (lF z0)))), ((q18 1), .inl (G.2 0, 600, .inl (iF z0)))], _, rfl, rfl, (sm_c set0 sm_n), ?_⟩
  refine V_rot ?_
  simp only [List.cons_append, List.nil_append]
  refine V_putF h pf_X8_20 4 get4 (Nat.le_of_ble_eq_true rfl) set1 set4 rfl rfl (dk dd_X8_init_0 10 rfl) q1_217 ?_
  refine V_aload_n h (dk dd_X8_init_0 11 rfl) rfl get0 ?_
  refine V_new h nw_X8_24 (⟨Nat.le_of_ble_eq_true rfl, Nat.le_of_ble_eq_true rfl⟩) (dk dd_X8_init_0 12 rfl) (fun n25 => ?_)
  refine V_dup h (dk dd_X8_init_0 13 rfl) rfl ?_
  refine V_callI h st1 (Or.inr ci_X8_26) (pk_c get0 pk_n) rfl (m_X6_init l G _ ) rfl rfl (Nat.le_of_ble_eq_true rfl) (by decide) (⟨Nat.le_of_ble_eq_true rfl, Nat.le_of_ble_eq_true rfl⟩) (dk dd_X8_init_0 14 rfl) ?_
  rintro _ _ ⟨q29, rfl, rfl⟩
  refine ⟨[(n25, .inr (5, [.ref (q29 0), .int (iZ 0)]))], [((q29 0), .inl (G.2 1, 434, .inr (.inl (lF z0))))], _, rfl, rfl, (sm_c set0 sm_n), ?_⟩
  refine V_rot ?_
  simp only [List.cons_append, List.nil_append]
  refine V_putF h pf_X8_27 6 get6 (Nat.le_of_ble_eq_true rfl) set2 set6 rfl rfl (dk dd_X8_init_0 15 rfl) q1_219 ?_
  refine V_aload_n h (dk dd_X8_init_0 16 rfl) rfl get0 ?_
  refine V_new h nw_X8_31 (⟨Nat.le_of_ble_eq_true rfl, Nat.le_of_ble_eq_true rfl⟩) (dk dd_X8_init_0 17 rfl) (fun n36 => ?_)
  refine V_dup h (dk dd_X8_init_0 18 rfl) rfl ?_
  refine V_callI h st1 (Or.inl ci_X8_33) (pk_c get0 pk_n) rfl (m_X1_init l G _ ) rfl rfl (Nat.le_of_ble_eq_true rfl) (by decide) (⟨Nat.le_of_ble_eq_true rfl, Nat.le_of_ble_eq_true rfl⟩) (dk dd_X8_init_0 19 rfl) ?_
  rintro _ _ ⟨q40, rfl, rfl⟩
  refine ⟨[(n36, .inr (0, [.ref (q40 0)]))], [((q40 0), .inl (G.2 1, 48, .inr (.inl (lF (ear0 z0 12)))))], _, rfl, rfl, (sm_c set0 sm_n), ?_⟩
  refine V_rot ?_
  simp only [List.cons_append, List.nil_append]
  refine V_putF h pf_X8_34 8 get8 (Nat.le_of_ble_eq_true rfl) set3 set8 rfl rfl (dk dd_X8_init_0 20 rfl) q1_221 ?_
  refine V_aload_n h (dk dd_X8_init_0 21 rfl) rfl get0 ?_
  refine V_new h nw_X8_38 (⟨Nat.le_of_ble_eq_true rfl, Nat.le_of_ble_eq_true rfl⟩) (dk dd_X8_init_0 22 rfl) (fun n47 => ?_)
  refine V_dup h (dk dd_X8_init_0 23 rfl) rfl ?_
  refine V_callI h st1 (Or.inr ci_X8_40) (pk_c get0 pk_n) rfl (m_X5_init l G _ ) rfl rfl (Nat.le_of_ble_eq_true rfl) (by decide) (⟨Nat.le_of_ble_eq_true rfl, Nat.le_of_ble_eq_true rfl⟩) (dk dd_X8_init_0 24 rfl) ?_
  rintro _ _ ⟨q51, rfl, rfl⟩
  refine ⟨[(n47, .inr (4, [.ref (q51 0), .int (iZ 0)]))], [((q51 0), .inl (G.2 0, 201, .inl (iF z0)))], _, rfl, rfl, (sm_c set0 sm_n), ?_⟩
  refine V_rot ?_
  simp only [List.cons_append, List.nil_append]
  refine V_putF h pf_X8_41 10 get10 (Nat.le_of_ble_eq_true rfl) set4 set10 rfl rfl (dk dd_X8_init_0 25 rfl) q1_223 ?_
  refine V_perm (is := [10, 9, 8, 6, 7, 5, 4, 3, 2, 1, 0]) (pk_c get10 (pk_c get9 (pk_c get8 (pk_c get6 (pk_c get7 (pk_c get5 (pk_c get4 (pk_c get3 (pk_c get2 (pk_c get1 (pk_c get0 pk_n))))))))))) rfl ?_
  refine V_iconst h (dk dd_X8_init_0 26 rfl) ?_
  refine V_istore_n h (dk dd_X8_init_0 27 rfl) rfl (Nat.le_of_ble_eq_true rfl) rfl set1 ?_
  have L59 : ∀ (fu : Nat) (i : Nat) (ra : Int → Nat) (c1 c2 : Nat), i ≤ 100 ∧ c1 ≤ 10 + i ∧ c2 ≤ 4393 + 6 * i → (100 - i) < fu → V K (c1, c2) 59 [some (.ref a), some (.int (iZ (i : Int)))] [] ((a, .inr (7, [.ref n7, .ref n14, .ref n25, .ref n36, .ref n47, .int (iZ 0)])) :: (n7, .inl (G.2 4, 100, .inr (.inr (.inr (.inr (rayP ra i)))))) :: (n14, .inr (2, [.ref (q18 0), .ref (q18 1), .int (iZ 0), .int (iZ 0), .long (lZ 0)])) :: ((q18 0), .inl (G.2 1, 3000, .inr (.inl (lF z0)))) :: ((q18 1), .inl (G.2 0, 600, .inl (iF z0))) :: (n25, .inr (5, [.ref (q29 0), .int (iZ 0)])) :: ((q29 0), .inl (G.2 1, 434, .inr (.inl (lF z0)))) :: (n36, .inr (0, [.ref (q40 0)])) :: ((q40 0), .inl (G.2 1, 48, .inr (.inl (lF (ear0 z0 12))))) :: (n47, .inr (4, [.ref (q51 0), .int (iZ 0)])) :: ((q51 0), .inl (G.2 0, 201, .inl (iF z0))) :: (raysN ra i)) := by
    intro fu
    induction fu with
    | zero => intro i ra c1 c2 _ hm; exact absurd hm (Nat.not_lt_zero _)
    | succ fu ih59 =>
      intro i ra c1 c2 hI59 hm59
      refine V_iload_n h (dk dd_X8_init_0 28 rfl) rfl get1 ?_
      refine V_aload_n h (dk dd_X8_init_0 29 rfl) rfl get0 ?_
      refine V_get h fl_X8_11 0 get0 get0 (dk dd_X8_init_0 30 rfl) ?_
      refine V_alen h 1 get1 4 rfl (dk dd_X8_init_0 31 rfl) ?_
      refine V_icmp_ge (tgt := 88) h (dk dd_X8_init_0 32 rfl) rfl (by omega) (fun c65 => ?_) (fun c65 => ?_)
      · refine V_vret h hF (dk dd_X8_init_0 43 rfl) ⟨show c1 ≤ 110 by omega, show c2 ≤ 4993 by omega⟩ ?_
        have e9 : i = 100 := by omega
        subst e9
        refine ⟨(fun k : Nat => if k < 100 then ([n7, n14, (q18 0), (q18 1), n25, (q29 0), n36, (q40 0), n47, (q51 0)] : List Nat).getD k 0 else ra ((k - 100 : Nat) : Int)), rfl, ?_⟩
        have h9 : ∀ i : Nat, i < 100 → ra (i : Int) = (fun j : Int => (fun k : Nat => if k < 100 then ([n7, n14, (q18 0), (q18 1), n25, (q29 0), n36, (q40 0), n47, (q51 0)] : List Nat).getD k 0 else ra ((k - 100 : Nat) : Int)) (100 + j.toNat)) (i : Int) := fun i hi => by
          dsimp only
          rw [if_neg (by omega)]
          congr 1
          omega
        rw [rayP_100 (ra' := fun j : Int => (fun k : Nat => if k < 100 then ([n7, n14, (q18 0), (q18 1), n25, (q29 0), n36, (q40 0), n47, (q51 0)] : List Nat).getD k 0 else ra ((k - 100 : Nat) : Int)) (100 + j.toNat)) h9, raysN_100 (ra' := fun j : Int => (fun k : Nat => if k < 100 then ([n7, n14, (q18 0), (q18 1), n25, (q29 0), n36, (q40 0), n47, (q51 0)] : List Nat).getD k 0 else ra ((k - 100 : Nat) : Int)) (100 + j.toNat)) h9]
        rfl
      · refine V_aload_n h (dk dd_X8_init_0 33 rfl) rfl get0 ?_
        refine V_get h fl_X8_11 0 get0 get0 (dk dd_X8_init_0 34 rfl) ?_
        refine V_iload_n h (dk dd_X8_init_0 35 rfl) rfl get1 ?_
        refine V_new h nw_X8_9 (⟨show c1 + 1 ≤ 110 by omega, show c2 + 6 ≤ 4993 by omega⟩) (dk dd_X8_init_0 36 rfl) (fun n73 => ?_)
        refine V_dup h (dk dd_X8_init_0 37 rfl) rfl ?_
        refine V_iload_n h (dk dd_X8_init_0 38 rfl) rfl get1 ?_
        refine V_callI h st2 (Or.inl ci_X8_45) (pk_c get0 pk_n) rfl (m_X7_init l G _ _ ) rfl rfl (Nat.le_of_ble_eq_true rfl) (by decide) (⟨show c1 + 1 ≤ 110 by omega, show c2 + 6 ≤ 4993 by omega⟩) (dk dd_X8_init_0 39 rfl) ?_
        rintro _ _ ⟨rfl, rfl⟩
        refine ⟨_, [], _, rfl, (List.append_nil _).symm, (sm_c set0 sm_n), ?_⟩
        rw [List.append_nil]
        refine V_aast (r := (RX7, TX7, 6)) h 2 4 0 get2 rfl get0 rfl (by omega) set2 (dk dd_X8_init_0 40 rfl) ?_
        refine V_iinc h (dk dd_X8_init_0 41 rfl) get1 (Nat.le_of_ble_eq_true rfl) rfl set1 ?_
        refine V_goto (tgt := 59) h (dk dd_X8_init_0 42 rfl) rfl ?_
        refine V_rot1 ?_
        simp only [List.cons_append]
        rw [raysN_s, show va_up (rayP ra i) (i : Int).toNat (some n73) = rayP (fun j => if j = (i : Int) then n73 else ra j) (i + 1) from rayP_s, show (i : Int) + 1 = ((i + 1 : Nat) : Int) from rfl]
        exact ih59 (i + 1) _ _ _ ⟨by omega, (show c1 + 1 ≤ 10 + (i + 1) by omega), (show c2 + 6 ≤ 4393 + 6 * (i + 1) by omega)⟩ (by omega)
  rw [rayP_0 (ra := fun _ => 0)]
  refine L59 _ 0 (fun _ => 0) _ _ ?_ (Nat.lt_succ_self _)
  exact ⟨by omega, Nat.le_of_ble_eq_true rfl, Nat.le_of_ble_eq_true rfl⟩

set_option maxHeartbeats 4000000 in
set_option maxRecDepth 100000 in
theorem m_X11_init (l : Launch) (G : GT) (a : Nat)  : Ctr l G yX11_init cX11_init 1 none (rmO 4 135 5440 81) [.ref a] [(a, .inr (10, [.null, .null, .null, .null]))] (Mk (fun q => ((a, .inr (10, [.ref (q 0), .ref (q 1), .ref (q 2), .ref (q 3)])) :: ((q 0), .inr (9, [.ref (q 4), .int (iZ 10), .int (iZ 1000)])) :: ((q 4), .inr (3, [.ref (q 5), .int (iZ 0)])) :: ((q 5), .inl (G.2 0, 48, .inl (iF z0))) :: ((q 1), .inr (1, [.ref (q 6), .int (iZ 0)])) :: ((q 6), .inl (G.2 5, 5, .inr (.inr (.inr (.inr (arr5 (fun i => ([(q 7), (q 10), (q 13), (q 16), (q 19)] : List Nat).getD i 0))))))) :: ((q 7), .inr (9, [.ref (q 8), .int (iZ 10), .int (iZ 1000)])) :: ((q 8), .inr (3, [.ref (q 9), .int (iZ 0)])) :: ((q 9), .inl (G.2 0, 48, .inl (iF z0))) :: ((q 10), .inr (9, [.ref (q 11), .int (iZ 10), .int (iZ 1000)])) :: ((q 11), .inr (3, [.ref (q 12), .int (iZ 0)])) :: ((q 12), .inl (G.2 0, 48, .inl (iF z0))) :: ((q 13), .inr (9, [.ref (q 14), .int (iZ 10), .int (iZ 1000)])) :: ((q 14), .inr (3, [.ref (q 15), .int (iZ 0)])) :: ((q 15), .inl (G.2 0, 48, .inl (iF z0))) :: ((q 16), .inr (9, [.ref (q 17), .int (iZ 10), .int (iZ 1000)])) :: ((q 17), .inr (3, [.ref (q 18), .int (iZ 0)])) :: ((q 18), .inl (G.2 0, 48, .inl (iF z0))) :: ((q 19), .inr (9, [.ref (q 20), .int (iZ 10), .int (iZ 1000)])) :: ((q 20), .inr (3, [.ref (q 21), .int (iZ 0)])) :: ((q 21), .inl (G.2 0, 48, .inl (iF z0))) :: ((q 2), .inr (8, [.ref (q 22), .ref (q 23), .int (iZ 0), .int (iZ 0), .int (iZ 0), .int (iZ 0)])) :: ((q 22), .inl (G.2 3, 60, .inl (iF z0))) :: ((q 23), .inr (3, [.ref (q 24), .int (iZ 0)])) :: ((q 24), .inl (G.2 0, 48, .inl (iF z0))) :: ((q 3), .inr (7, [.ref (q 25), .ref (q 26), .ref (q 29), .ref (q 31), .ref (q 33), .int (iZ 0)])) :: ((q 25), .inl (G.2 4, 100, .inr (.inr (.inr (.inr (rayA (fun j : Int => q (100 + j.toNat)))))))) :: ((q 26), .inr (2, [.ref (q 27), .ref (q 28), .int (iZ 0), .int (iZ 0), .long (lZ 0)])) :: ((q 27), .inl (G.2 1, 3000, .inr (.inl (lF z0)))) :: ((q 28), .inl (G.2 0, 600, .inl (iF z0))) :: ((q 29), .inr (5, [.ref (q 30), .int (iZ 0)])) :: ((q 30), .inl (G.2 1, 434, .inr (.inl (lF z0)))) :: ((q 31), .inr (0, [.ref (q 32)])) :: ((q 32), .inl (G.2 1, 48, .inr (.inl (lF (ear0 z0 12))))) :: ((q 33), .inr (4, [.ref (q 34), .int (iZ 0)])) :: ((q 34), .inl (G.2 0, 201, .inl (iF z0))) :: raysW (fun j : Int => q (100 + j.toNat)) (fun _ => 0) (fun _ => 0) (fun _ => 0) (fun _ => 0) (fun _ => 0)))) := by
  refine Ctr.go (own := RX11) (nm := "<init>") (by decide +kernel) rfl rfl [some (.ref a)] 0 rfl rfl (Nat.le_of_ble_eq_true rfl) ?_
  intro K h hF
  refine V_aload_n h (dk dd_X11_init_0 0 rfl) rfl get0 ?_
  refine V_obj h q1_21 (dk dd_X11_init_0 1 rfl) ⟨Nat.le_of_ble_eq_true rfl, Nat.le_of_ble_eq_true rfl, Nat.le_of_ble_eq_true rfl, rfl⟩ ?_
  refine V_aload_n h (dk dd_X11_init_0 2 rfl) rfl get0 ?_
  refine V_new h nw_X11_7 (⟨Nat.le_of_ble_eq_true rfl, Nat.le_of_ble_eq_true rfl⟩) (dk dd_X11_init_0 3 rfl) (fun n5 => ?_)
  refine V_dup h (dk dd_X11_init_0 4 rfl) rfl ?_
  refine V_callI h st1 (Or.inr ci_X11_9) (pk_c get0 pk_n) rfl (m_X10_init l G _ ) rfl rfl (Nat.le_of_ble_eq_true rfl) (by decide) (⟨Nat.le_of_ble_eq_true rfl, Nat.le_of_ble_eq_true rfl⟩) (dk dd_X11_init_0 5 rfl) ?_
  rintro _ _ ⟨q9, rfl, rfl⟩
  refine ⟨[(n5, .inr (9, [.ref (q9 0), .int (iZ 10), .int (iZ 1000)]))], [((q9 0), .inr (3, [.ref (q9 1), .int (iZ 0)])), ((q9 1), .inl (G.2 0, 48, .inl (iF z0)))], _, rfl, rfl, (sm_c set0 sm_n), ?_⟩
  refine V_rot ?_
  simp only [List.cons_append, List.nil_append]
  refine V_putF h pf_X11_10 3 get3 (Nat.le_of_ble_eq_true rfl) set0 set3 rfl rfl (dk dd_X11_init_0 6 rfl) q2_0 ?_
  refine V_aload_n h (dk dd_X11_init_0 7 rfl) rfl get0 ?_
  refine V_new h nw_X11_16 (⟨Nat.le_of_ble_eq_true rfl, Nat.le_of_ble_eq_true rfl⟩) (dk dd_X11_init_0 8 rfl) (fun n16 => ?_)
  refine V_dup h (dk dd_X11_init_0 9 rfl) rfl ?_
  refine V_callI h st1 (Or.inl ci_X11_18) (pk_c get0 pk_n) rfl (m_X2_init l G _ ) rfl rfl (Nat.le_of_ble_eq_true rfl) (by decide) (⟨Nat.le_of_ble_eq_true rfl, Nat.le_of_ble_eq_true rfl⟩) (dk dd_X11_init_0 10 rfl) ?_
  rintro _ _ ⟨q20, rfl, rfl⟩
  refine ⟨[(n16, .inr (1, [.ref (q20 0), .int (iZ 0)]))], [((q20 0), .inl (G.2 5, 5, .inr (.inr (.inr (.inr (arr5 (fun i => ([(q20 1), (q20 4), (q20 7), (q20 10), (q20 13)] : List Nat).getD i 0))))))), ((q20 1), .inr (9, [.ref (q20 2), .int (iZ 10), .int (iZ 1000)])), ((q20 2), .inr (3, [.ref (q20 3), .int (iZ 0)])), ((q20 3), .inl (G.2 0, 48, .inl (iF z0))), ((q20 4), .inr (9, [.ref (q20 5), .int (iZ 10), .int (iZ 1000)])), ((q20 5), .inr (3, [.ref (q20 6), .int (iZ 0)])), ((q20 6), .inl (G.2 0, 48, .inl (iF z0))), ((q20 7), .inr (9, [.ref (q20 8), .int (iZ 10), .int (iZ 1000)])), ((q20 8), .inr (3, [.ref (q20 9), .int (iZ 0)])), ((q20 9), .inl (G.2 0, 48, .inl (iF z0))), ((q20 10), .inr (9, [.ref (q20 11), .int (iZ 10), .int (iZ 1000)])), ((q20 11), .inr (3, [.ref (q20 12), .int (iZ 0)])), ((q20 12), .inl (G.2 0, 48, .inl (iF z0))), ((q20 13), .inr (9, [.ref (q20 14), .int (iZ 10), .int (iZ 1000)])), ((q20 14), .inr (3, [.ref (q20 15), .int (iZ 0)])), ((q20 15), .inl (G.2 0, 48, .inl (iF z0)))], _, rfl, rfl, (sm_c set0 sm_n), ?_⟩
  refine V_rot ?_
  simp only [List.cons_append, List.nil_append]
  refine V_putF h pf_X11_19 20 get20 (Nat.le_of_ble_eq_true rfl) set1 set20 rfl rfl (dk dd_X11_init_0 11 rfl) q2_1 ?_
  refine V_aload_n h (dk dd_X11_init_0 12 rfl) rfl get0 ?_
  refine V_new h nw_X11_23 (⟨Nat.le_of_ble_eq_true rfl, Nat.le_of_ble_eq_true rfl⟩) (dk dd_X11_init_0 13 rfl) (fun n27 => ?_)
  refine V_dup h (dk dd_X11_init_0 14 rfl) rfl ?_
  refine V_callI h st1 (Or.inr ci_X11_25) (pk_c get0 pk_n) rfl (m_X9_init l G _ ) rfl rfl (Nat.le_of_ble_eq_true rfl) (by decide) (⟨Nat.le_of_ble_eq_true rfl, Nat.le_of_ble_eq_true rfl⟩) (dk dd_X11_init_0 15 rfl) ?_
  rintro _ _ ⟨q31, rfl, rfl⟩
  refine ⟨[(n27, .inr (8, [.ref (q31 0), .ref (q31 1), .int (iZ 0), .int (iZ 0), .int (iZ 0), .int (iZ 0)]))], [((q31 0), .inl (G.2 3, 60, .inl (iF z0))), ((q31 1), .inr (3, [.ref (q31 2), .int (iZ 0)])), ((q31 2), .inl (G.2 0, 48, .inl (iF z0)))], _, rfl, rfl, (sm_c set0 sm_n), ?_⟩
  refine V_rot ?_
  simp only [List.cons_append, List.nil_append]
  refine V_putF h pf_X11_26 24 get24 (Nat.le_of_ble_eq_true rfl) set2 set24 rfl rfl (dk dd_X11_init_0 16 rfl) q2_2 ?_
  refine V_aload_n h (dk dd_X11_init_0 17 rfl) rfl get0 ?_
  refine V_new h nw_X11_30 (⟨Nat.le_of_ble_eq_true rfl, Nat.le_of_ble_eq_true rfl⟩) (dk dd_X11_init_0 18 rfl) (fun n38 => ?_)
  refine V_dup h (dk dd_X11_init_0 19 rfl) rfl ?_
  refine V_callI h st1 (Or.inl ci_X11_32) (pk_c get0 pk_n) rfl (m_X8_init l G _ ) rfl rfl (Nat.le_of_ble_eq_true rfl) (by decide) (⟨Nat.le_of_ble_eq_true rfl, Nat.le_of_ble_eq_true rfl⟩) (dk dd_X11_init_0 20 rfl) ?_
  rintro _ _ ⟨q42, rfl, rfl⟩
  refine ⟨[(n38, .inr (7, [.ref (q42 0), .ref (q42 1), .ref (q42 4), .ref (q42 6), .ref (q42 8), .int (iZ 0)]))], (((q42 0), .inl (G.2 4, 100, .inr (.inr (.inr (.inr (rayA (fun j : Int => q42 (100 + j.toNat)))))))) :: ((q42 1), .inr (2, [.ref (q42 2), .ref (q42 3), .int (iZ 0), .int (iZ 0), .long (lZ 0)])) :: ((q42 2), .inl (G.2 1, 3000, .inr (.inl (lF z0)))) :: ((q42 3), .inl (G.2 0, 600, .inl (iF z0))) :: ((q42 4), .inr (5, [.ref (q42 5), .int (iZ 0)])) :: ((q42 5), .inl (G.2 1, 434, .inr (.inl (lF z0)))) :: ((q42 6), .inr (0, [.ref (q42 7)])) :: ((q42 7), .inl (G.2 1, 48, .inr (.inl (lF (ear0 z0 12))))) :: ((q42 8), .inr (4, [.ref (q42 9), .int (iZ 0)])) :: ((q42 9), .inl (G.2 0, 201, .inl (iF z0))) :: raysW (fun j : Int => q42 (100 + j.toNat)) (fun _ => 0) (fun _ => 0) (fun _ => 0) (fun _ => 0) (fun _ => 0)), _, rfl, rfl, (sm_c set0 sm_n), ?_⟩
  simp only [List.cons_append, List.nil_append]
  refine V_putF h pf_X11_33 25 get25 (Nat.le_of_ble_eq_true rfl) set3 set25 rfl rfl (dk dd_X11_init_0 21 rfl) q2_3 ?_
  refine V_permT (pre := [(n38, .inr (7, [.ref (q42 0), .ref (q42 1), .ref (q42 4), .ref (q42 6), .ref (q42 8), .int (iZ 0)])), ((q31 0), .inl (G.2 3, 60, .inl (iF z0))), ((q31 1), .inr (3, [.ref (q31 2), .int (iZ 0)])), ((q31 2), .inl (G.2 0, 48, .inl (iF z0))), (n27, .inr (8, [.ref (q31 0), .ref (q31 1), .int (iZ 0), .int (iZ 0), .int (iZ 0), .int (iZ 0)])), ((q20 0), .inl (G.2 5, 5, .inr (.inr (.inr (.inr (arr5 (fun i => ([(q20 1), (q20 4), (q20 7), (q20 10), (q20 13)] : List Nat).getD i 0))))))), ((q20 1), .inr (9, [.ref (q20 2), .int (iZ 10), .int (iZ 1000)])), ((q20 2), .inr (3, [.ref (q20 3), .int (iZ 0)])), ((q20 3), .inl (G.2 0, 48, .inl (iF z0))), ((q20 4), .inr (9, [.ref (q20 5), .int (iZ 10), .int (iZ 1000)])), ((q20 5), .inr (3, [.ref (q20 6), .int (iZ 0)])), ((q20 6), .inl (G.2 0, 48, .inl (iF z0))), ((q20 7), .inr (9, [.ref (q20 8), .int (iZ 10), .int (iZ 1000)])), ((q20 8), .inr (3, [.ref (q20 9), .int (iZ 0)])), ((q20 9), .inl (G.2 0, 48, .inl (iF z0))), ((q20 10), .inr (9, [.ref (q20 11), .int (iZ 10), .int (iZ 1000)])), ((q20 11), .inr (3, [.ref (q20 12), .int (iZ 0)])), ((q20 12), .inl (G.2 0, 48, .inl (iF z0))), ((q20 13), .inr (9, [.ref (q20 14), .int (iZ 10), .int (iZ 1000)])), ((q20 14), .inr (3, [.ref (q20 15), .int (iZ 0)])), ((q20 15), .inl (G.2 0, 48, .inl (iF z0))), (n16, .inr (1, [.ref (q20 0), .int (iZ 0)])), ((q9 0), .inr (3, [.ref (q9 1), .int (iZ 0)])), ((q9 1), .inl (G.2 0, 48, .inl (iF z0))), (n5, .inr (9, [.ref (q9 0), .int (iZ 10), .int (iZ 1000)])), (a, .inr (10, [.ref n5, .ref n16, .ref n27, .ref n38])), ((q42 0), .inl (G.2 4, 100, .inr (.inr (.inr (.inr (rayA (fun j : Int => q42 (100 + j.toNat)))))))), ((q42 1), .inr (2, [.ref (q42 2), .ref (q42 3), .int (iZ 0), .int (iZ 0), .long (lZ 0)])), ((q42 2), .inl (G.2 1, 3000, .inr (.inl (lF z0)))), ((q42 3), .inl (G.2 0, 600, .inl (iF z0))), ((q42 4), .inr (5, [.ref (q42 5), .int (iZ 0)])), ((q42 5), .inl (G.2 1, 434, .inr (.inl (lF z0)))), ((q42 6), .inr (0, [.ref (q42 7)])), ((q42 7), .inl (G.2 1, 48, .inr (.inl (lF (ear0 z0 12))))), ((q42 8), .inr (4, [.ref (q42 9), .int (iZ 0)])), ((q42 9), .inl (G.2 0, 201, .inl (iF z0)))]) (is := [25, 24, 22, 23, 21, 5, 6, 7, 8, 9, 10, 11, 12, 13, 14, 15, 16, 17, 18, 19, 20, 4, 1, 2, 3, 0, 26, 27, 28, 29, 30, 31, 32, 33, 34, 35]) (pk_c get25 (pk_c get24 (pk_c get22 (pk_c get23 (pk_c get21 (pk_c get5 (pk_c get6 (pk_c get7 (pk_c get8 (pk_c get9 (pk_c get10 (pk_c get11 (pk_c get12 (pk_c get13 (pk_c get14 (pk_c get15 (pk_c get16 (pk_c get17 (pk_c get18 (pk_c get19 (pk_c get20 (pk_c get4 (pk_c get1 (pk_c get2 (pk_c get3 (pk_c get0 (pk_c get26 (pk_c get27 (pk_c get28 (pk_c get29 (pk_c get30 (pk_c get31 (pk_c get32 (pk_c get33 (pk_c get34 (pk_c get35 pk_n)))))))))))))))))))))))))))))))))))) rfl ?_
  simp only [List.cons_append, List.nil_append]
  refine V_vret h hF (dk dd_X11_init_0 22 rfl) ⟨Nat.le_of_ble_eq_true rfl, Nat.le_of_ble_eq_true rfl⟩ ?_
  refine ⟨(fun k : Nat => if k < 100 then ([n5, n16, n27, n38, (q9 0), (q9 1), (q20 0), (q20 1), (q20 2), (q20 3), (q20 4), (q20 5), (q20 6), (q20 7), (q20 8), (q20 9), (q20 10), (q20 11), (q20 12), (q20 13), (q20 14), (q20 15), (q31 0), (q31 1), (q31 2), (q42 0), (q42 1), (q42 2), (q42 3), (q42 4), (q42 5), (q42 6), (q42 7), (q42 8), (q42 9)] : List Nat).getD k 0 else q42 k), rfl, ?_⟩
  have h9 : (fun j : Int => q42 (100 + j.toNat)) = (fun j : Int => (fun k : Nat => if k < 100 then ([n5, n16, n27, n38, (q9 0), (q9 1), (q20 0), (q20 1), (q20 2), (q20 3), (q20 4), (q20 5), (q20 6), (q20 7), (q20 8), (q20 9), (q20 10), (q20 11), (q20 12), (q20 13), (q20 14), (q20 15), (q31 0), (q31 1), (q31 2), (q42 0), (q42 1), (q42 2), (q42 3), (q42 4), (q42 5), (q42 6), (q42 7), (q42 8), (q42 9)] : List Nat).getD k 0 else q42 k) (100 + j.toNat)) := by
    funext j
    dsimp only
    rw [if_neg (by omega)]
  rw [h9]
  rfl

