/-! Ray, HitLog, Ears, Path -/
set_option maxHeartbeats 4000000 in
set_option maxRecDepth 100000 in
theorem m_X7_start (l : Launch) (G : GT) (q : Nat) (i p s e t v : Int) (p1 s1 e1 t1 : Int)  : Ctr l G yX7_start cX7_start 6 none (rmO 0 0 0 0) [.ref q, .int (iZ p1), .int (iZ s1), .int (iZ e1), .long (lZ t1)] [(q, .inr (6, [.int (iZ i), .int (iZ p), .int (iZ s), .int (iZ e), .long (lZ t), .int (iZ v)]))] (Det none [(q, .inr (6, [.int (iZ i), .int (iZ p1), .int (iZ s1), .int (iZ e1), .long (lZ t1), .int (iZ 1)]))]) := by
  refine Ctr.go (own := RX7) (nm := "start") (by decide +kernel) rfl rfl [some (.ref q), some (.int (iZ p1)), some (.int (iZ s1)), some (.int (iZ e1)), some (.long (lZ t1)), none] 0 rfl rfl (Nat.le_of_ble_eq_true rfl) ?_
  intro K h hF
  refine V_aload_n h (dk dd_X7_start_0 0 rfl) rfl get0 ?_
  refine V_iload_n h (dk dd_X7_start_0 1 rfl) rfl get1 ?_
  refine V_put h pf_X7_13 0 get0 (Nat.le_of_ble_eq_true rfl) set1 set0 rfl rfl (dk dd_X7_start_0 2 rfl) ?_
  refine V_aload_n h (dk dd_X7_start_0 3 rfl) rfl get0 ?_
  refine V_iload_n h (dk dd_X7_start_0 4 rfl) rfl get2 ?_
  refine V_put h pf_X7_16 0 get0 (Nat.le_of_ble_eq_true rfl) set2 set0 rfl rfl (dk dd_X7_start_0 5 rfl) ?_
  refine V_aload_n h (dk dd_X7_start_0 6 rfl) rfl get0 ?_
  refine V_iload_n h (dk dd_X7_start_0 7 rfl) rfl get3 ?_
  refine V_put h pf_X7_19 0 get0 (Nat.le_of_ble_eq_true rfl) set3 set0 rfl rfl (dk dd_X7_start_0 8 rfl) ?_
  refine V_aload_n h (dk dd_X7_start_0 9 rfl) rfl get0 ?_
  refine V_lload h (dk dd_X7_start_0 10 rfl) get4 ?_
  refine V_put h pf_X7_22 0 get0 (Nat.le_of_ble_eq_true rfl) set4 set0 rfl rfl (dk dd_X7_start_0 11 rfl) ?_
  refine V_aload_n h (dk dd_X7_start_0 12 rfl) rfl get0 ?_
  refine V_iconst h (dk dd_X7_start_0 13 rfl) ?_
  refine V_put h pf_X7_26 0 get0 (Nat.le_of_ble_eq_true rfl) set5 set0 (Z01.n (by decide)) (Z01.f (by decide)) (dk dd_X7_start_0 14 rfl) ?_
  refine V_vret h hF (dk dd_X7_start_0 15 rfl) ⟨Nat.le_of_ble_eq_true rfl, Nat.le_of_ble_eq_true rfl⟩ ?_
  exact det_v rfl

set_option maxHeartbeats 4000000 in
set_option maxRecDepth 100000 in
theorem m_X7_lose (l : Launch) (G : GT) (q : Nat) (i p s e t v : Int) (k : Int) (he : 0 ≤ e ∧ e ≤ 1000000) (hk : 0 ≤ k ∧ k ≤ 1000) : Ctr l G yX7_lose cX7_lose 2 none (rmO 0 0 0 0) [.ref q, .int (iZ k)] [(q, .inr (6, [.int (iZ i), .int (iZ p), .int (iZ s), .int (iZ e), .long (lZ t), .int (iZ v)]))] (Det none [(q, .inr (6, [.int (iZ i), .int (iZ p), .int (iZ s), .int (iZ (e * (1000 - k) / 1000)), .long (lZ t), .int (iZ v)]))]) := by
  refine Ctr.go (own := RX7) (nm := "lose") (by decide +kernel) rfl rfl [some (.ref q), some (.int (iZ k))] 0 rfl rfl (Nat.le_of_ble_eq_true rfl) ?_
  intro K h hF
  have hm := Int.mul_nonneg (a := e) (b := 1000 - k) (by omega) (by omega)
  have hm2 := Int.mul_le_mul_of_nonneg_left (a := 1000 - k) (b := 1000) (c := e) (by omega) (by omega)
  refine V_aload_n h (dk dd_X7_lose_0 0 rfl) rfl get0 ?_
  refine V_aload_n h (dk dd_X7_lose_0 1 rfl) rfl get0 ?_
  refine V_get h fl_X7_19 0 get0 get3 (dk dd_X7_lose_0 2 rfl) ?_
  refine V_sipush h (dk dd_X7_lose_0 3 rfl) (by decide) ?_
  refine V_iload_n h (dk dd_X7_lose_0 4 rfl) rfl get1 ?_
  refine V_isub h (dk dd_X7_lose_0 5 rfl) ?_
  refine V_imul h (dk dd_X7_lose_0 6 rfl) ?_
  refine V_sipush h (dk dd_X7_lose_0 7 rfl) (by decide) ?_
  refine V_idivP h (dk dd_X7_lose_0 8 rfl) (by omega) ?_
  refine V_put h pf_X7_19 0 get0 (Nat.le_of_ble_eq_true rfl) set3 set0 rfl rfl (dk dd_X7_lose_0 9 rfl) ?_
  refine V_vret h hF (dk dd_X7_lose_0 10 rfl) ⟨Nat.le_of_ble_eq_true rfl, Nat.le_of_ble_eq_true rfl⟩ ?_
  exact det_v rfl

set_option maxHeartbeats 4000000 in
set_option maxRecDepth 100000 in
theorem m_X7_tilt (l : Launch) (G : GT) (q : Nat) (i p s e t v : Int) (k : Int) (hs : -13859 ≤ s ∧ s ≤ 13859) (hk : -9999 ≤ k ∧ k ≤ 9999) : Ctr l G yX7_tilt cX7_tilt 3 none (rmO 2 0 0 42) [.ref q, .int (iZ k)] [(q, .inr (6, [.int (iZ i), .int (iZ p), .int (iZ s), .int (iZ e), .long (lZ t), .int (iZ v)]))] (Det none [(q, .inr (6, [.int (iZ i), .int (iZ p), .int (iZ (if tiltF s k = 0 then s else tiltF s k)), .int (iZ e), .long (lZ t), .int (iZ (if tiltF s k = 0 then 0 else v))]))]) := by
  refine Ctr.go (own := RX7) (nm := "tilt") (by decide +kernel) rfl rfl [some (.ref q), some (.int (iZ k)), none] 1 rfl rfl (Nat.le_of_ble_eq_true rfl) ?_
  intro K h hF
  refine V_aload_n h (dk dd_X7_tilt_0 0 rfl) rfl get0 ?_
  refine V_get h fl_X7_16 0 get0 get2 (dk dd_X7_tilt_0 1 rfl) ?_
  refine V_iload_n h (dk dd_X7_tilt_0 2 rfl) rfl get1 ?_
  refine V_callS h st2 ci_X7_30 pk_n rfl (m_X0_tilted l G _ _ (by omega) (by omega)) rfl rfl (Nat.le_of_ble_eq_true rfl) (by decide) ⟨rfl, rfl, rfl⟩ (dk dd_X7_tilt_0 3 rfl) sk1 sm_n ?_
  refine V_istore_n h (dk dd_X7_tilt_0 4 rfl) rfl (Nat.le_of_ble_eq_true rfl) rfl set2 ?_
  have ht := tilt_R s k
  refine V_iload_n h (dk dd_X7_tilt_0 5 rfl) rfl get2 ?_
  refine V_if_ne (tgt := 21) h (dk dd_X7_tilt_0 6 rfl) rfl (by omega) (fun c10 => ?_) (fun c10 => ?_)
  · refine V_aload_n h (dk dd_X7_tilt_0 11 rfl) rfl get0 ?_
    refine V_iload_n h (dk dd_X7_tilt_0 12 rfl) rfl get2 ?_
    refine V_put h pf_X7_16 0 get0 (Nat.le_of_ble_eq_true rfl) set2 set0 rfl rfl (dk dd_X7_tilt_0 13 rfl) ?_
    refine V_vret h hF (dk dd_X7_tilt_0 14 rfl) ⟨Nat.le_of_ble_eq_true rfl, Nat.le_of_ble_eq_true rfl⟩ ?_
    first | exact det_v (by rw [if_pos c10, if_pos c10]) | exact det_v (by rw [if_neg c10, if_neg c10])
  · refine V_aload_n h (dk dd_X7_tilt_0 7 rfl) rfl get0 ?_
    refine V_iconst h (dk dd_X7_tilt_0 8 rfl) ?_
    refine V_put h pf_X7_26 0 get0 (Nat.le_of_ble_eq_true rfl) set5 set0 (Z01.n (by decide)) (Z01.f (by decide)) (dk dd_X7_tilt_0 9 rfl) ?_
    refine V_goto (tgt := 26) h (dk dd_X7_tilt_0 10 rfl) rfl ?_
    refine V_vret h hF (dk dd_X7_tilt_0 14 rfl) ⟨Nat.le_of_ble_eq_true rfl, Nat.le_of_ble_eq_true rfl⟩ ?_
    first | exact det_v (by rw [if_pos c10, if_pos c10]) | exact det_v (by rw [if_neg c10, if_neg c10])

set_option maxHeartbeats 4000000 in
set_option maxRecDepth 100000 in
theorem m_X3_forget (l : Launch) (G : GT) (a b c : Nat) (h ec es : Int) (Nn Ec : Int → Int)  : Ctr l G yX3_forget cX3_forget 1 none (rmO 0 0 0 0) [.ref a] [(a, .inr (2, [.ref b, .ref c, .int (iZ h), .int (iZ ec), .long (lZ es)])), (b, .inl (G.2 1, 3000, .inr (.inl (lF Nn)))), (c, .inl (G.2 0, 600, .inl (iF Ec)))] (Det none [(a, .inr (2, [.ref b, .ref c, .int (iZ 0), .int (iZ 0), .long (lZ 0)])), (b, .inl (G.2 1, 3000, .inr (.inl (lF Nn)))), (c, .inl (G.2 0, 600, .inl (iF Ec)))]) := by
  refine Ctr.go (own := RX3) (nm := "forget") (by decide +kernel) rfl rfl [some (.ref a)] 0 rfl rfl (Nat.le_of_ble_eq_true rfl) ?_
  intro K h hF
  refine V_aload_n h (dk dd_X3_forget_0 0 rfl) rfl get0 ?_
  refine V_iconst h (dk dd_X3_forget_0 1 rfl) ?_
  refine V_put h pf_X3_19 0 get0 (Nat.le_of_ble_eq_true rfl) set2 set0 rfl rfl (dk dd_X3_forget_0 2 rfl) ?_
  refine V_aload_n h (dk dd_X3_forget_0 3 rfl) rfl get0 ?_
  refine V_iconst h (dk dd_X3_forget_0 4 rfl) ?_
  refine V_put h pf_X3_23 0 get0 (Nat.le_of_ble_eq_true rfl) set3 set0 rfl rfl (dk dd_X3_forget_0 5 rfl) ?_
  refine V_aload_n h (dk dd_X3_forget_0 6 rfl) rfl get0 ?_
  refine V_lconst0 h (dk dd_X3_forget_0 7 rfl) ?_
  refine V_put h pf_X3_26 0 get0 (Nat.le_of_ble_eq_true rfl) set4 set0 rfl rfl (dk dd_X3_forget_0 8 rfl) ?_
  refine V_vret h hF (dk dd_X3_forget_0 9 rfl) ⟨Nat.le_of_ble_eq_true rfl, Nat.le_of_ble_eq_true rfl⟩ ?_
  exact det_v rfl

set_option maxHeartbeats 4000000 in
set_option maxRecDepth 100000 in
theorem m_X3_note (l : Launch) (G : GT) (a b c : Nat) (h ec es : Int) (Nn Ec : Int → Int) (q : Nat) (i p s e t v : Int) (hh : 0 ≤ h ∧ h < 600) (hi : R32 i) (hp : R32 p) (hs : R32 s) (he : R32 e) : Ctr l G yX3_note cX3_note 3 none (rmO 0 0 0 0) [.ref a, .ref q] [(a, .inr (2, [.ref b, .ref c, .int (iZ h), .int (iZ ec), .long (lZ es)])), (b, .inl (G.2 1, 3000, .inr (.inl (lF Nn)))), (c, .inl (G.2 0, 600, .inl (iF Ec))), (q, .inr (6, [.int (iZ i), .int (iZ p), .int (iZ s), .int (iZ e), .long (lZ t), .int (iZ v)]))] (Det none [(a, .inr (2, [.ref b, .ref c, .int (iZ (h + 1)), .int (iZ ec), .long (lZ (es + e))])), (b, .inl (G.2 1, 3000, .inr (.inl (lF (noteF Nn h i p t e s))))), (c, .inl (G.2 0, 600, .inl (iF Ec))), (q, .inr (6, [.int (iZ i), .int (iZ p), .int (iZ s), .int (iZ e), .long (lZ t), .int (iZ v)]))]) := by
  refine Ctr.go (own := RX3) (nm := "note") (by decide +kernel) rfl rfl [some (.ref a), some (.ref q), none] 1 rfl rfl (Nat.le_of_ble_eq_true rfl) ?_
  intro K h hF
  refine V_aload_n h (dk dd_X3_note_0 0 rfl) rfl get0 ?_
  refine V_get h fl_X3_19 0 get0 get2 (dk dd_X3_note_0 1 rfl) ?_
  refine V_sipush h (dk dd_X3_note_0 2 rfl) (by decide) ?_
  refine V_icmp_lt (tgt := 11) h (dk dd_X3_note_0 3 rfl) rfl (by omega) (fun c7 => ?_) (fun c7 => ?_)
  · refine V_aload_n h (dk dd_X3_note_0 5 rfl) rfl get0 ?_
    refine V_get h fl_X3_19 0 get0 get2 (dk dd_X3_note_0 6 rfl) ?_
    refine V_iconst h (dk dd_X3_note_0 7 rfl) ?_
    refine V_imul h (dk dd_X3_note_0 8 rfl) ?_
    refine V_istore_n h (dk dd_X3_note_0 9 rfl) rfl (Nat.le_of_ble_eq_true rfl) rfl set2 ?_
    refine V_aload_n h (dk dd_X3_note_0 10 rfl) rfl get0 ?_
    refine V_get h fl_X3_9 0 get0 get0 (dk dd_X3_note_0 11 rfl) ?_
    refine V_iload_n h (dk dd_X3_note_0 12 rfl) rfl get2 ?_
    refine V_aload_n h (dk dd_X3_note_0 13 rfl) rfl get1 ?_
    refine V_get h fl_X3_30 3 get3 get0 (dk dd_X3_note_0 14 rfl) ?_
    refine V_i2l h (dk dd_X3_note_0 15 rfl) (by omega) ?_
    refine V_last h 1 get1 (by omega) set1 (dk dd_X3_note_0 16 rfl) ?_
    refine V_aload_n h (dk dd_X3_note_0 17 rfl) rfl get0 ?_
    refine V_get h fl_X3_9 0 get0 get0 (dk dd_X3_note_0 18 rfl) ?_
    refine V_iload_n h (dk dd_X3_note_0 19 rfl) rfl get2 ?_
    refine V_iconst h (dk dd_X3_note_0 20 rfl) ?_
    refine V_iadd h (dk dd_X3_note_0 21 rfl) ?_
    refine V_aload_n h (dk dd_X3_note_0 22 rfl) rfl get1 ?_
    refine V_get h fl_X3_35 3 get3 get1 (dk dd_X3_note_0 23 rfl) ?_
    refine V_i2l h (dk dd_X3_note_0 24 rfl) (by omega) ?_
    refine V_last h 1 get1 (by omega) set1 (dk dd_X3_note_0 25 rfl) ?_
    refine V_aload_n h (dk dd_X3_note_0 26 rfl) rfl get0 ?_
    refine V_get h fl_X3_9 0 get0 get0 (dk dd_X3_note_0 27 rfl) ?_
    refine V_iload_n h (dk dd_X3_note_0 28 rfl) rfl get2 ?_
    refine V_iconst h (dk dd_X3_note_0 29 rfl) ?_
    refine V_iadd h (dk dd_X3_note_0 30 rfl) ?_
    refine V_aload_n h (dk dd_X3_note_0 31 rfl) rfl get1 ?_
    refine V_get h fl_X3_38 3 get3 get4 (dk dd_X3_note_0 32 rfl) ?_
    refine V_last h 1 get1 (by omega) set1 (dk dd_X3_note_0 33 rfl) ?_
    refine V_aload_n h (dk dd_X3_note_0 34 rfl) rfl get0 ?_
    refine V_get h fl_X3_9 0 get0 get0 (dk dd_X3_note_0 35 rfl) ?_
    refine V_iload_n h (dk dd_X3_note_0 36 rfl) rfl get2 ?_
    refine V_iconst h (dk dd_X3_note_0 37 rfl) ?_
    refine V_iadd h (dk dd_X3_note_0 38 rfl) ?_
    refine V_aload_n h (dk dd_X3_note_0 39 rfl) rfl get1 ?_
    refine V_get h fl_X3_41 3 get3 get3 (dk dd_X3_note_0 40 rfl) ?_
    refine V_i2l h (dk dd_X3_note_0 41 rfl) (by omega) ?_
    refine V_last h 1 get1 (by omega) set1 (dk dd_X3_note_0 42 rfl) ?_
    refine V_aload_n h (dk dd_X3_note_0 43 rfl) rfl get0 ?_
    refine V_get h fl_X3_9 0 get0 get0 (dk dd_X3_note_0 44 rfl) ?_
    refine V_iload_n h (dk dd_X3_note_0 45 rfl) rfl get2 ?_
    refine V_iconst h (dk dd_X3_note_0 46 rfl) ?_
    refine V_iadd h (dk dd_X3_note_0 47 rfl) ?_
    refine V_aload_n h (dk dd_X3_note_0 48 rfl) rfl get1 ?_
    refine V_get h fl_X3_44 3 get3 get2 (dk dd_X3_note_0 49 rfl) ?_
    refine V_i2l h (dk dd_X3_note_1 0 rfl) (by omega) ?_
    refine V_last h 1 get1 (by omega) set1 (dk dd_X3_note_1 1 rfl) ?_
    refine V_aload_n h (dk dd_X3_note_1 2 rfl) rfl get0 ?_
    refine V_dup h (dk dd_X3_note_1 3 rfl) rfl ?_
    refine V_get h fl_X3_26 0 get0 get4 (dk dd_X3_note_1 4 rfl) ?_
    refine V_aload_n h (dk dd_X3_note_1 5 rfl) rfl get1 ?_
    refine V_get h fl_X3_41 3 get3 get3 (dk dd_X3_note_1 6 rfl) ?_
    refine V_i2l h (dk dd_X3_note_1 7 rfl) (by omega) ?_
    refine V_ladd h (dk dd_X3_note_1 8 rfl) ?_
    refine V_put h pf_X3_26 0 get0 (Nat.le_of_ble_eq_true rfl) set4 set0 rfl rfl (dk dd_X3_note_1 9 rfl) ?_
    refine V_aload_n h (dk dd_X3_note_1 10 rfl) rfl get0 ?_
    refine V_dup h (dk dd_X3_note_1 11 rfl) rfl ?_
    refine V_get h fl_X3_19 0 get0 get2 (dk dd_X3_note_1 12 rfl) ?_
    refine V_iconst h (dk dd_X3_note_1 13 rfl) ?_
    refine V_iadd h (dk dd_X3_note_1 14 rfl) ?_
    refine V_put h pf_X3_19 0 get0 (Nat.le_of_ble_eq_true rfl) set2 set0 rfl rfl (dk dd_X3_note_1 15 rfl) ?_
    refine V_vret h hF (dk dd_X3_note_1 16 rfl) ⟨Nat.le_of_ble_eq_true rfl, Nat.le_of_ble_eq_true rfl⟩ ?_
    exact det_v rfl
  · exfalso; omega

set_option maxHeartbeats 4000000 in
set_option maxRecDepth 100000 in
theorem m_X3_noteEcho (l : Launch) (G : GT) (a b c : Nat) (h ec es : Int) (Nn Ec : Int → Int) (hh : 1 ≤ h ∧ h ≤ 600) (hec : 0 ≤ ec ∧ ec ≤ 600) (hE : ∀ j, 0 ≤ j → j < ec → R32 (Ec j)) : Ctr l G yX3_noteEcho cX3_noteEcho 2 none (rmO 0 0 0 0) [.ref a] [(a, .inr (2, [.ref b, .ref c, .int (iZ h), .int (iZ ec), .long (lZ es)])), (b, .inl (G.2 1, 3000, .inr (.inl (lF Nn)))), (c, .inl (G.2 0, 600, .inl (iF Ec)))] (Det none [(a, .inr (2, [.ref b, .ref c, .int (iZ h), .int (iZ (eC ec Ec h)), .long (lZ es)])), (b, .inl (G.2 1, 3000, .inr (.inl (lF Nn)))), (c, .inl (G.2 0, 600, .inl (iF (eF ec Ec h))))]) := by
  refine Ctr.go (own := RX3) (nm := "noteEcho") (by decide +kernel) rfl rfl [some (.ref a), none] 1 rfl rfl (Nat.le_of_ble_eq_true rfl) ?_
  intro K h hF
  refine V_aload_n h (dk dd_X3_noteEcho_0 0 rfl) rfl get0 ?_
  refine V_get h fl_X3_19 0 get0 get2 (dk dd_X3_noteEcho_0 1 rfl) ?_
  refine V_iconst h (dk dd_X3_noteEcho_0 2 rfl) ?_
  refine V_isub h (dk dd_X3_noteEcho_0 3 rfl) ?_
  refine V_istore_n h (dk dd_X3_noteEcho_0 4 rfl) rfl (Nat.le_of_ble_eq_true rfl) rfl set1 ?_
  refine V_aload_n h (dk dd_X3_noteEcho_0 5 rfl) rfl get0 ?_
  refine V_get h fl_X3_23 0 get0 get3 (dk dd_X3_noteEcho_0 6 rfl) ?_
  refine V_if_le (tgt := 30) h (dk dd_X3_noteEcho_0 7 rfl) rfl (by omega) (fun c11 => ?_) (fun c11 => ?_)
  · refine V_aload_n h (dk dd_X3_noteEcho_0 18 rfl) rfl get0 ?_
    refine V_get h fl_X3_23 0 get0 get3 (dk dd_X3_noteEcho_0 19 rfl) ?_
    refine V_sipush h (dk dd_X3_noteEcho_0 20 rfl) (by decide) ?_
    refine V_icmp_ge (tgt := 60) h (dk dd_X3_noteEcho_0 21 rfl) rfl (by omega) (fun c37 => ?_) (fun c37 => ?_)
    · refine V_vret h hF (dk dd_X3_noteEcho_0 34 rfl) ⟨Nat.le_of_ble_eq_true rfl, Nat.le_of_ble_eq_true rfl⟩ ?_
      first | exact det_v (by rw [(eC_f (by unfold echoNew; omega)).1, (eC_f (by unfold echoNew; omega)).2]) | exact det_v (by rw [(eC_t (by unfold echoNew; omega)).1, (eC_t (by unfold echoNew; omega)).2])
    · refine V_aload_n h (dk dd_X3_noteEcho_0 22 rfl) rfl get0 ?_
      refine V_get h fl_X3_15 0 get0 get1 (dk dd_X3_noteEcho_0 23 rfl) ?_
      refine V_aload_n h (dk dd_X3_noteEcho_0 24 rfl) rfl get0 ?_
      refine V_get h fl_X3_23 0 get0 get3 (dk dd_X3_noteEcho_0 25 rfl) ?_
      refine V_iload_n h (dk dd_X3_noteEcho_0 26 rfl) rfl get1 ?_
      refine V_iast h 2 get2 (by omega) set2 (dk dd_X3_noteEcho_0 27 rfl) ?_
      refine V_aload_n h (dk dd_X3_noteEcho_0 28 rfl) rfl get0 ?_
      refine V_dup h (dk dd_X3_noteEcho_0 29 rfl) rfl ?_
      refine V_get h fl_X3_23 0 get0 get3 (dk dd_X3_noteEcho_0 30 rfl) ?_
      refine V_iconst h (dk dd_X3_noteEcho_0 31 rfl) ?_
      refine V_iadd h (dk dd_X3_noteEcho_0 32 rfl) ?_
      refine V_put h pf_X3_23 0 get0 (Nat.le_of_ble_eq_true rfl) set3 set0 rfl rfl (dk dd_X3_noteEcho_0 33 rfl) ?_
      refine V_vret h hF (dk dd_X3_noteEcho_0 34 rfl) ⟨Nat.le_of_ble_eq_true rfl, Nat.le_of_ble_eq_true rfl⟩ ?_
      first | exact det_v (by rw [(eC_f (by unfold echoNew; omega)).1, (eC_f (by unfold echoNew; omega)).2]) | exact det_v (by rw [(eC_t (by unfold echoNew; omega)).1, (eC_t (by unfold echoNew; omega)).2])
  · refine V_aload_n h (dk dd_X3_noteEcho_0 8 rfl) rfl get0 ?_
    refine V_get h fl_X3_15 0 get0 get1 (dk dd_X3_noteEcho_0 9 rfl) ?_
    refine V_aload_n h (dk dd_X3_noteEcho_0 10 rfl) rfl get0 ?_
    refine V_get h fl_X3_23 0 get0 get3 (dk dd_X3_noteEcho_0 11 rfl) ?_
    refine V_iconst h (dk dd_X3_noteEcho_0 12 rfl) ?_
    refine V_isub h (dk dd_X3_noteEcho_0 13 rfl) ?_
    refine V_iald h 2 get2 (by omega) (dk dd_X3_noteEcho_0 14 rfl) ?_
    refine V_iload_n h (dk dd_X3_noteEcho_0 15 rfl) rfl get1 ?_
    have q1 := hE (ec - 1) (by omega) (by omega)
    refine V_icmp_ne (tgt := 30) h (dk dd_X3_noteEcho_0 16 rfl) rfl (by omega) (fun c26 => ?_) (fun c26 => ?_)
    · refine V_aload_n h (dk dd_X3_noteEcho_0 18 rfl) rfl get0 ?_
      refine V_get h fl_X3_23 0 get0 get3 (dk dd_X3_noteEcho_0 19 rfl) ?_
      refine V_sipush h (dk dd_X3_noteEcho_0 20 rfl) (by decide) ?_
      refine V_icmp_ge (tgt := 60) h (dk dd_X3_noteEcho_0 21 rfl) rfl (by omega) (fun c37_2 => ?_) (fun c37_2 => ?_)
      · refine V_vret h hF (dk dd_X3_noteEcho_0 34 rfl) ⟨Nat.le_of_ble_eq_true rfl, Nat.le_of_ble_eq_true rfl⟩ ?_
        first | exact det_v (by rw [(eC_f (by unfold echoNew; omega)).1, (eC_f (by unfold echoNew; omega)).2]) | exact det_v (by rw [(eC_t (by unfold echoNew; omega)).1, (eC_t (by unfold echoNew; omega)).2])
      · refine V_aload_n h (dk dd_X3_noteEcho_0 22 rfl) rfl get0 ?_
        refine V_get h fl_X3_15 0 get0 get1 (dk dd_X3_noteEcho_0 23 rfl) ?_
        refine V_aload_n h (dk dd_X3_noteEcho_0 24 rfl) rfl get0 ?_
        refine V_get h fl_X3_23 0 get0 get3 (dk dd_X3_noteEcho_0 25 rfl) ?_
        refine V_iload_n h (dk dd_X3_noteEcho_0 26 rfl) rfl get1 ?_
        refine V_iast h 2 get2 (by omega) set2 (dk dd_X3_noteEcho_0 27 rfl) ?_
        refine V_aload_n h (dk dd_X3_noteEcho_0 28 rfl) rfl get0 ?_
        refine V_dup h (dk dd_X3_noteEcho_0 29 rfl) rfl ?_
        refine V_get h fl_X3_23 0 get0 get3 (dk dd_X3_noteEcho_0 30 rfl) ?_
        refine V_iconst h (dk dd_X3_noteEcho_0 31 rfl) ?_
        refine V_iadd h (dk dd_X3_noteEcho_0 32 rfl) ?_
        refine V_put h pf_X3_23 0 get0 (Nat.le_of_ble_eq_true rfl) set3 set0 rfl rfl (dk dd_X3_noteEcho_0 33 rfl) ?_
        refine V_vret h hF (dk dd_X3_noteEcho_0 34 rfl) ⟨Nat.le_of_ble_eq_true rfl, Nat.le_of_ble_eq_true rfl⟩ ?_
        first | exact det_v (by rw [(eC_f (by unfold echoNew; omega)).1, (eC_f (by unfold echoNew; omega)).2]) | exact det_v (by rw [(eC_t (by unfold echoNew; omega)).1, (eC_t (by unfold echoNew; omega)).2])
    · refine V_vret h hF (dk dd_X3_noteEcho_0 17 rfl) ⟨Nat.le_of_ble_eq_true rfl, Nat.le_of_ble_eq_true rfl⟩ ?_
      first | exact det_v (by rw [(eC_f (by unfold echoNew; omega)).1, (eC_f (by unfold echoNew; omega)).2]) | exact det_v (by rw [(eC_t (by unfold echoNew; omega)).1, (eC_t (by unfold echoNew; omega)).2])

set_option maxHeartbeats 4000000 in
set_option maxRecDepth 100000 in
theorem m_X3_numberOf (l : Launch) (G : GT) (a b c : Nat) (h ec es : Int) (Nn Ec : Int → Int) (x y : Int) (hh : 0 ≤ h ∧ h ≤ 600) (hx : R32 x) (hy : R32 y) : Ctr l G yX3_numberOf cX3_numberOf 3 (Option.some FieldType.long) (rmO 0 0 0 0) [.ref a, .int (iZ x), .int (iZ y)] [(a, .inr (2, [.ref b, .ref c, .int (iZ h), .int (iZ ec), .long (lZ es)])), (b, .inl (G.2 1, 3000, .inr (.inl (lF Nn)))), (c, .inl (G.2 0, 600, .inl (iF Ec)))] (Det (some (.long (lZ (numL h Nn x y)))) [(a, .inr (2, [.ref b, .ref c, .int (iZ h), .int (iZ ec), .long (lZ es)])), (b, .inl (G.2 1, 3000, .inr (.inl (lF Nn)))), (c, .inl (G.2 0, 600, .inl (iF Ec)))]) := by
  refine Ctr.go (own := RX3) (nm := "numberOf") (by decide +kernel) rfl rfl [some (.ref a), some (.int (iZ x)), some (.int (iZ y))] 0 rfl rfl (Nat.le_of_ble_eq_true rfl) ?_
  intro K h hF
  refine V_iload_n h (dk dd_X3_numberOf_0 0 rfl) rfl get1 ?_
  refine V_if_lt (tgt := 21) h (dk dd_X3_numberOf_0 1 rfl) rfl (by omega) (fun c1 => ?_) (fun c1 => ?_)
  · refine V_ldc2 h q3_46 (dk dd_X3_numberOf_0 11 rfl) ?_
    refine V_lret h hF (dk dd_X3_numberOf_0 12 rfl) ⟨Nat.le_of_ble_eq_true rfl, Nat.le_of_ble_eq_true rfl⟩ ?_
    exact det_l (by unfold numL; split <;> first | rfl | omega) rfl
  · refine V_iload_n h (dk dd_X3_numberOf_0 2 rfl) rfl get1 ?_
    refine V_aload_n h (dk dd_X3_numberOf_0 3 rfl) rfl get0 ?_
    refine V_get h fl_X3_19 0 get0 get2 (dk dd_X3_numberOf_0 4 rfl) ?_
    refine V_icmp_ge (tgt := 21) h (dk dd_X3_numberOf_0 5 rfl) rfl (by omega) (fun c9 => ?_) (fun c9 => ?_)
    · refine V_ldc2 h q3_46 (dk dd_X3_numberOf_0 11 rfl) ?_
      refine V_lret h hF (dk dd_X3_numberOf_0 12 rfl) ⟨Nat.le_of_ble_eq_true rfl, Nat.le_of_ble_eq_true rfl⟩ ?_
      exact det_l (by unfold numL; split <;> first | rfl | omega) rfl
    · refine V_iload_n h (dk dd_X3_numberOf_0 6 rfl) rfl get2 ?_
      refine V_if_lt (tgt := 21) h (dk dd_X3_numberOf_0 7 rfl) rfl (by omega) (fun c13 => ?_) (fun c13 => ?_)
      · refine V_ldc2 h q3_46 (dk dd_X3_numberOf_0 11 rfl) ?_
        refine V_lret h hF (dk dd_X3_numberOf_0 12 rfl) ⟨Nat.le_of_ble_eq_true rfl, Nat.le_of_ble_eq_true rfl⟩ ?_
        exact det_l (by unfold numL; split <;> first | rfl | omega) rfl
      · refine V_iload_n h (dk dd_X3_numberOf_0 8 rfl) rfl get2 ?_
        refine V_iconst h (dk dd_X3_numberOf_0 9 rfl) ?_
        refine V_icmp_lt (tgt := 25) h (dk dd_X3_numberOf_0 10 rfl) rfl (by omega) (fun c18 => ?_) (fun c18 => ?_)
        · refine V_aload_n h (dk dd_X3_numberOf_0 13 rfl) rfl get0 ?_
          refine V_get h fl_X3_9 0 get0 get0 (dk dd_X3_numberOf_0 14 rfl) ?_
          refine V_iload_n h (dk dd_X3_numberOf_0 15 rfl) rfl get1 ?_
          refine V_iconst h (dk dd_X3_numberOf_0 16 rfl) ?_
          refine V_imul h (dk dd_X3_numberOf_0 17 rfl) ?_
          refine V_iload_n h (dk dd_X3_numberOf_0 18 rfl) rfl get2 ?_
          refine V_iadd h (dk dd_X3_numberOf_0 19 rfl) ?_
          refine V_lald h 1 get1 (by omega) (dk dd_X3_numberOf_0 20 rfl) ?_
          refine V_lret h hF (dk dd_X3_numberOf_0 21 rfl) ⟨Nat.le_of_ble_eq_true rfl, Nat.le_of_ble_eq_true rfl⟩ ?_
          exact det_l (by unfold numL; split <;> first | rfl | omega) rfl
        · refine V_ldc2 h q3_46 (dk dd_X3_numberOf_0 11 rfl) ?_
          refine V_lret h hF (dk dd_X3_numberOf_0 12 rfl) ⟨Nat.le_of_ble_eq_true rfl, Nat.le_of_ble_eq_true rfl⟩ ?_
          exact det_l (by unfold numL; split <;> first | rfl | omega) rfl

set_option maxHeartbeats 4000000 in
set_option maxRecDepth 100000 in
theorem m_X3_echoAt (l : Launch) (G : GT) (a b c : Nat) (h ec es : Int) (Nn Ec : Int → Int) (x : Int) (hec : 0 ≤ ec ∧ ec ≤ 600) (hx : R32 x) : Ctr l G yX3_echoAt cX3_echoAt 2 (Option.some FieldType.int) (rmO 0 0 0 0) [.ref a, .int (iZ x)] [(a, .inr (2, [.ref b, .ref c, .int (iZ h), .int (iZ ec), .long (lZ es)])), (b, .inl (G.2 1, 3000, .inr (.inl (lF Nn)))), (c, .inl (G.2 0, 600, .inl (iF Ec)))] (Det (some (.int (iZ (echoF ec Ec x)))) [(a, .inr (2, [.ref b, .ref c, .int (iZ h), .int (iZ ec), .long (lZ es)])), (b, .inl (G.2 1, 3000, .inr (.inl (lF Nn)))), (c, .inl (G.2 0, 600, .inl (iF Ec)))]) := by
  refine Ctr.go (own := RX3) (nm := "echoAt") (by decide +kernel) rfl rfl [some (.ref a), some (.int (iZ x))] 0 rfl rfl (Nat.le_of_ble_eq_true rfl) ?_
  intro K h hF
  refine V_iload_n h (dk dd_X3_echoAt_0 0 rfl) rfl get1 ?_
  refine V_if_ge (tgt := 7) h (dk dd_X3_echoAt_0 1 rfl) rfl (by omega) (fun c1 => ?_) (fun c1 => ?_)
  · refine V_iload_n h (dk dd_X3_echoAt_0 4 rfl) rfl get1 ?_
    refine V_aload_n h (dk dd_X3_echoAt_0 5 rfl) rfl get0 ?_
    refine V_get h fl_X3_23 0 get0 get3 (dk dd_X3_echoAt_0 6 rfl) ?_
    refine V_icmp_ge (tgt := 24) h (dk dd_X3_echoAt_0 7 rfl) rfl (by omega) (fun c12 => ?_) (fun c12 => ?_)
    · refine V_ldc h q3_90 (dk dd_X3_echoAt_0 13 rfl) ?_
      refine V_iret h hF (dk dd_X3_echoAt_0 14 rfl) ⟨Nat.le_of_ble_eq_true rfl, Nat.le_of_ble_eq_true rfl⟩ ?_
      exact det_i (by unfold echoF; split <;> (try split) <;> first | rfl | omega) rfl
    · refine V_aload_n h (dk dd_X3_echoAt_0 8 rfl) rfl get0 ?_
      refine V_get h fl_X3_15 0 get0 get1 (dk dd_X3_echoAt_0 9 rfl) ?_
      refine V_iload_n h (dk dd_X3_echoAt_0 10 rfl) rfl get1 ?_
      refine V_iald h 2 get2 (by omega) (dk dd_X3_echoAt_0 11 rfl) ?_
      refine V_goto (tgt := 26) h (dk dd_X3_echoAt_0 12 rfl) rfl ?_
      refine V_iret h hF (dk dd_X3_echoAt_0 14 rfl) ⟨Nat.le_of_ble_eq_true rfl, Nat.le_of_ble_eq_true rfl⟩ ?_
      exact det_i (by unfold echoF; split <;> (try split) <;> first | rfl | omega) rfl
  · refine V_ldc h q3_89 (dk dd_X3_echoAt_0 2 rfl) ?_
    refine V_iret h hF (dk dd_X3_echoAt_0 3 rfl) ⟨Nat.le_of_ble_eq_true rfl, Nat.le_of_ble_eq_true rfl⟩ ?_
    exact det_i (by unfold echoF; split <;> (try split) <;> first | rfl | omega) rfl

set_option maxHeartbeats 4000000 in
set_option maxRecDepth 100000 in
theorem m_X1_forget (l : Launch) (G : GT) (a b : Nat) (A : Int → Int)  : Ctr l G yX1_forget cX1_forget 3 none (rmO 0 0 0 0) [.ref a] [(a, .inr (0, [.ref b])), (b, .inl (G.2 1, 48, .inr (.inl (lF A))))] (Det none [(a, .inr (0, [.ref b])), (b, .inl (G.2 1, 48, .inr (.inl (lF (ear0 A 12)))))]) := by
  refine Ctr.go (own := RX1) (nm := "forget") (by decide +kernel) rfl rfl [some (.ref a), none, none] 2 rfl rfl (Nat.le_of_ble_eq_true rfl) ?_
  intro K h hF
  refine V_iconst h (dk dd_X1_forget_0 0 rfl) ?_
  refine V_istore_n h (dk dd_X1_forget_0 1 rfl) rfl (Nat.le_of_ble_eq_true rfl) rfl set1 ?_
  have L2 : ∀ (fu : Nat) (i : Int), 0 ≤ i ∧ i ≤ 12 → (12 - i).toNat < fu → V K (0, 0) 2 [some (.ref a), some (.int (iZ i)), none] [] [(a, .inr (0, [.ref b])), (b, .inl (G.2 1, 48, .inr (.inl (lF (ear0 A i)))))] := by
    intro fu
    induction fu with
    | zero => intro i _ hm; exact absurd hm (Nat.not_lt_zero _)
    | succ fu ih2 =>
      intro i hI2 hm2
      refine V_iload_n h (dk dd_X1_forget_0 2 rfl) rfl get1 ?_
      refine V_bipush h (dk dd_X1_forget_0 3 rfl) (by decide) ?_
      refine V_icmp_ge (tgt := 54) h (dk dd_X1_forget_0 4 rfl) rfl (by omega) (fun c5 => ?_) (fun c5 => ?_)
      · have e : i = 12 := by omega
        subst e
        refine V_vret h hF (dk dd_X1_forget_0 37 rfl) ⟨Nat.le_of_ble_eq_true rfl, Nat.le_of_ble_eq_true rfl⟩ ?_
        exact det_v rfl
      · refine V_iload_n h (dk dd_X1_forget_0 5 rfl) rfl get1 ?_
        refine V_iconst h (dk dd_X1_forget_0 6 rfl) ?_
        refine V_imul h (dk dd_X1_forget_0 7 rfl) ?_
        refine V_istore_n h (dk dd_X1_forget_0 8 rfl) rfl (Nat.le_of_ble_eq_true rfl) rfl set2 ?_
        refine V_aload_n h (dk dd_X1_forget_0 9 rfl) rfl get0 ?_
        refine V_get h fl_X1_9 0 get0 get0 (dk dd_X1_forget_0 10 rfl) ?_
        refine V_iload_n h (dk dd_X1_forget_0 11 rfl) rfl get2 ?_
        refine V_lconst0 h (dk dd_X1_forget_0 12 rfl) ?_
        refine V_last h 1 get1 (by omega) set1 (dk dd_X1_forget_0 13 rfl) ?_
        refine V_aload_n h (dk dd_X1_forget_0 14 rfl) rfl get0 ?_
        refine V_get h fl_X1_9 0 get0 get0 (dk dd_X1_forget_0 15 rfl) ?_
        refine V_iload_n h (dk dd_X1_forget_0 16 rfl) rfl get2 ?_
        refine V_iconst h (dk dd_X1_forget_0 17 rfl) ?_
        refine V_iadd h (dk dd_X1_forget_0 18 rfl) ?_
        refine V_lconst0 h (dk dd_X1_forget_0 19 rfl) ?_
        refine V_last h 1 get1 (by omega) set1 (dk dd_X1_forget_0 20 rfl) ?_
        refine V_aload_n h (dk dd_X1_forget_0 21 rfl) rfl get0 ?_
        refine V_get h fl_X1_9 0 get0 get0 (dk dd_X1_forget_0 22 rfl) ?_
        refine V_iload_n h (dk dd_X1_forget_0 23 rfl) rfl get2 ?_
        refine V_iconst h (dk dd_X1_forget_0 24 rfl) ?_
        refine V_iadd h (dk dd_X1_forget_0 25 rfl) ?_
        refine V_ldc2 h q1_161 (dk dd_X1_forget_0 26 rfl) ?_
        refine V_last h 1 get1 (by omega) set1 (dk dd_X1_forget_0 27 rfl) ?_
        refine V_aload_n h (dk dd_X1_forget_0 28 rfl) rfl get0 ?_
        refine V_get h fl_X1_9 0 get0 get0 (dk dd_X1_forget_0 29 rfl) ?_
        refine V_iload_n h (dk dd_X1_forget_0 30 rfl) rfl get2 ?_
        refine V_iconst h (dk dd_X1_forget_0 31 rfl) ?_
        refine V_iadd h (dk dd_X1_forget_0 32 rfl) ?_
        refine V_lconst0 h (dk dd_X1_forget_0 33 rfl) ?_
        refine V_last h 1 get1 (by omega) set1 (dk dd_X1_forget_0 34 rfl) ?_
        rw [ear0_s hI2.1]
        refine V_iinc h (dk dd_X1_forget_0 35 rfl) get1 (Nat.le_of_ble_eq_true rfl) rfl set1 ?_
        refine V_goto (tgt := 2) h (dk dd_X1_forget_0 36 rfl) rfl ?_
        refine V_wk (lw_s (lw_s (lw_o lw_n))) ?_
        exact ih2 _ (by omega) (by omega)
  have e0 := L2 _ 0 (by omega) (Nat.lt_succ_self _)
  rw [ear0_0] at e0
  exact e0

set_option maxHeartbeats 4000000 in
set_option maxRecDepth 100000 in
theorem m_X1_hear (l : Launch) (G : GT) (a b : Nat) (A : Int → Int) (q : Nat) (i p s e t v : Int) (x : Int) (hx : 0 ≤ x ∧ x < 12) (hA : ∀ j, 0 ≤ j → j < 48 → R64 (A j)) (he : R32 e) : Ctr l G yX1_hear cX1_hear 4 none (rmO 1 0 0 23) [.ref a, .int (iZ x), .ref q] [(a, .inr (0, [.ref b])), (b, .inl (G.2 1, 48, .inr (.inl (lF A)))), (q, .inr (6, [.int (iZ i), .int (iZ p), .int (iZ s), .int (iZ e), .long (lZ t), .int (iZ v)]))] (Det none [(a, .inr (0, [.ref b])), (b, .inl (G.2 1, 48, .inr (.inl (lF (hearF A x t e))))), (q, .inr (6, [.int (iZ i), .int (iZ p), .int (iZ s), .int (iZ e), .long (lZ t), .int (iZ v)]))]) := by
  refine Ctr.go (own := RX1) (nm := "hear") (by decide +kernel) rfl rfl [some (.ref a), some (.int (iZ x)), some (.ref q), none] 1 rfl rfl (Nat.le_of_ble_eq_true rfl) ?_
  intro K h hF
  refine V_iload_n h (dk dd_X1_hear_0 0 rfl) rfl get1 ?_
  refine V_if_lt (tgt := 10) h (dk dd_X1_hear_0 1 rfl) rfl (by omega) (fun c1 => ?_) (fun c1 => ?_)
  · exfalso; omega
  · refine V_iload_n h (dk dd_X1_hear_0 2 rfl) rfl get1 ?_
    refine V_bipush h (dk dd_X1_hear_0 3 rfl) (by decide) ?_
    refine V_icmp_lt (tgt := 11) h (dk dd_X1_hear_0 4 rfl) rfl (by omega) (fun c7 => ?_) (fun c7 => ?_)
    · refine V_iload_n h (dk dd_X1_hear_0 6 rfl) rfl get1 ?_
      refine V_iconst h (dk dd_X1_hear_0 7 rfl) ?_
      refine V_imul h (dk dd_X1_hear_0 8 rfl) ?_
      refine V_istore_n h (dk dd_X1_hear_0 9 rfl) rfl (Nat.le_of_ble_eq_true rfl) rfl set3 ?_
      refine V_aload_n h (dk dd_X1_hear_0 10 rfl) rfl get0 ?_
      refine V_get h fl_X1_9 0 get0 get0 (dk dd_X1_hear_0 11 rfl) ?_
      refine V_iload_n h (dk dd_X1_hear_0 12 rfl) rfl get3 ?_
      refine V_lald h 1 get1 (by omega) (dk dd_X1_hear_0 13 rfl) ?_
      refine V_lconst0 h (dk dd_X1_hear_0 14 rfl) ?_
      have q0 := hA (x * 4) (by omega) (by omega)
      have q3 := hA (x * 4 + 3) (by omega) (by omega)
      refine V_lcmp_ne (tgt := 38) h (dk dd_X1_hear_0 15 rfl) (dk dd_X1_hear_0 16 rfl) rfl (by omega) (fun c22 => ?_) (fun c22 => ?_)
      · rw [show A = hear1 A x t from (if_neg c22).symm]
        refine V_aload_n h (dk dd_X1_hear_0 25 rfl) rfl get0 ?_
        refine V_get h fl_X1_9 0 get0 get0 (dk dd_X1_hear_0 26 rfl) ?_
        refine V_iload_n h (dk dd_X1_hear_0 27 rfl) rfl get3 ?_
        refine V_dup2 h (dk dd_X1_hear_0 28 rfl) rfl rfl ?_
        refine V_lald h 1 get1 (by omega) (dk dd_X1_hear_0 29 rfl) ?_
        rw [hear1_n (by omega)]
        refine V_lconst1 h (dk dd_X1_hear_0 30 rfl) ?_
        refine V_ladd h (dk dd_X1_hear_0 31 rfl) ?_
        refine V_last h 1 get1 (by omega) set1 (dk dd_X1_hear_0 32 rfl) ?_
        refine V_aload_n h (dk dd_X1_hear_0 33 rfl) rfl get0 ?_
        refine V_get h fl_X1_9 0 get0 get0 (dk dd_X1_hear_0 34 rfl) ?_
        refine V_iload_n h (dk dd_X1_hear_0 35 rfl) rfl get3 ?_
        refine V_iconst h (dk dd_X1_hear_0 36 rfl) ?_
        refine V_iadd h (dk dd_X1_hear_0 37 rfl) ?_
        refine V_dup2 h (dk dd_X1_hear_0 38 rfl) rfl rfl ?_
        refine V_lald h 1 get1 (by omega) (dk dd_X1_hear_0 39 rfl) ?_
        rw [zup_n (by omega), hear1_n (by omega)]
        refine V_aload_n h (dk dd_X1_hear_0 40 rfl) rfl get2 ?_
        refine V_get h fl_X1_26 2 get2 get3 (dk dd_X1_hear_0 41 rfl) ?_
        refine V_i2l h (dk dd_X1_hear_0 42 rfl) (by omega) ?_
        refine V_ladd h (dk dd_X1_hear_0 43 rfl) ?_
        refine V_last h 1 get1 (by omega) set1 (dk dd_X1_hear_0 44 rfl) ?_
        refine V_aload_n h (dk dd_X1_hear_0 45 rfl) rfl get0 ?_
        refine V_get h fl_X1_9 0 get0 get0 (dk dd_X1_hear_0 46 rfl) ?_
        refine V_iload_n h (dk dd_X1_hear_0 47 rfl) rfl get3 ?_
        refine V_iconst h (dk dd_X1_hear_0 48 rfl) ?_
        refine V_iadd h (dk dd_X1_hear_0 49 rfl) ?_
        refine V_aload_n h (dk dd_X1_hear_1 0 rfl) rfl get0 ?_
        refine V_get h fl_X1_9 0 get0 get0 (dk dd_X1_hear_1 1 rfl) ?_
        refine V_iload_n h (dk dd_X1_hear_1 2 rfl) rfl get3 ?_
        refine V_iconst h (dk dd_X1_hear_1 3 rfl) ?_
        refine V_iadd h (dk dd_X1_hear_1 4 rfl) ?_
        refine V_lald h 1 get1 (by omega) (dk dd_X1_hear_1 5 rfl) ?_
        rw [zup_n (by omega), zup_n (by omega), hear1_n (by omega)]
        refine V_aload_n h (dk dd_X1_hear_1 6 rfl) rfl get2 ?_
        refine V_get h fl_X1_26 2 get2 get3 (dk dd_X1_hear_1 7 rfl) ?_
        refine V_i2l h (dk dd_X1_hear_1 8 rfl) (by omega) ?_
        refine V_callS h st2 ci_X1_30 pk_n rfl (m_J9_max_f86c9 l G _ _ (by omega) (by omega)) rfl rfl (Nat.le_of_ble_eq_true rfl) (by decide) ⟨rfl, rfl, rfl⟩ (dk dd_X1_hear_1 9 rfl) sk1 sm_n ?_
        refine V_last h 1 get1 (by omega) set1 (dk dd_X1_hear_1 10 rfl) ?_
        refine V_vret h hF (dk dd_X1_hear_1 11 rfl) ⟨Nat.le_of_ble_eq_true rfl, Nat.le_of_ble_eq_true rfl⟩ ?_
        exact det_v rfl
      · refine V_aload_n h (dk dd_X1_hear_0 17 rfl) rfl get0 ?_
        refine V_get h fl_X1_9 0 get0 get0 (dk dd_X1_hear_0 18 rfl) ?_
        refine V_iload_n h (dk dd_X1_hear_0 19 rfl) rfl get3 ?_
        refine V_iconst h (dk dd_X1_hear_0 20 rfl) ?_
        refine V_iadd h (dk dd_X1_hear_0 21 rfl) ?_
        refine V_aload_n h (dk dd_X1_hear_0 22 rfl) rfl get2 ?_
        refine V_get h fl_X1_20 2 get2 get4 (dk dd_X1_hear_0 23 rfl) ?_
        refine V_last h 1 get1 (by omega) set1 (dk dd_X1_hear_0 24 rfl) ?_
        rw [show zup A (x * 4 + 2) t = hear1 A x t from (if_pos c22).symm]
        refine V_aload_n h (dk dd_X1_hear_0 25 rfl) rfl get0 ?_
        refine V_get h fl_X1_9 0 get0 get0 (dk dd_X1_hear_0 26 rfl) ?_
        refine V_iload_n h (dk dd_X1_hear_0 27 rfl) rfl get3 ?_
        refine V_dup2 h (dk dd_X1_hear_0 28 rfl) rfl rfl ?_
        refine V_lald h 1 get1 (by omega) (dk dd_X1_hear_0 29 rfl) ?_
        rw [hear1_n (by omega)]
        refine V_lconst1 h (dk dd_X1_hear_0 30 rfl) ?_
        refine V_ladd h (dk dd_X1_hear_0 31 rfl) ?_
        refine V_last h 1 get1 (by omega) set1 (dk dd_X1_hear_0 32 rfl) ?_
        refine V_aload_n h (dk dd_X1_hear_0 33 rfl) rfl get0 ?_
        refine V_get h fl_X1_9 0 get0 get0 (dk dd_X1_hear_0 34 rfl) ?_
        refine V_iload_n h (dk dd_X1_hear_0 35 rfl) rfl get3 ?_
        refine V_iconst h (dk dd_X1_hear_0 36 rfl) ?_
        refine V_iadd h (dk dd_X1_hear_0 37 rfl) ?_
        refine V_dup2 h (dk dd_X1_hear_0 38 rfl) rfl rfl ?_
        refine V_lald h 1 get1 (by omega) (dk dd_X1_hear_0 39 rfl) ?_
        rw [zup_n (by omega), hear1_n (by omega)]
        refine V_aload_n h (dk dd_X1_hear_0 40 rfl) rfl get2 ?_
        refine V_get h fl_X1_26 2 get2 get3 (dk dd_X1_hear_0 41 rfl) ?_
        refine V_i2l h (dk dd_X1_hear_0 42 rfl) (by omega) ?_
        refine V_ladd h (dk dd_X1_hear_0 43 rfl) ?_
        refine V_last h 1 get1 (by omega) set1 (dk dd_X1_hear_0 44 rfl) ?_
        refine V_aload_n h (dk dd_X1_hear_0 45 rfl) rfl get0 ?_
        refine V_get h fl_X1_9 0 get0 get0 (dk dd_X1_hear_0 46 rfl) ?_
        refine V_iload_n h (dk dd_X1_hear_0 47 rfl) rfl get3 ?_
        refine V_iconst h (dk dd_X1_hear_0 48 rfl) ?_
        refine V_iadd h (dk dd_X1_hear_0 49 rfl) ?_
        refine V_aload_n h (dk dd_X1_hear_1 0 rfl) rfl get0 ?_
        refine V_get h fl_X1_9 0 get0 get0 (dk dd_X1_hear_1 1 rfl) ?_
        refine V_iload_n h (dk dd_X1_hear_1 2 rfl) rfl get3 ?_
        refine V_iconst h (dk dd_X1_hear_1 3 rfl) ?_
        refine V_iadd h (dk dd_X1_hear_1 4 rfl) ?_
        refine V_lald h 1 get1 (by omega) (dk dd_X1_hear_1 5 rfl) ?_
        rw [zup_n (by omega), zup_n (by omega), hear1_n (by omega)]
        refine V_aload_n h (dk dd_X1_hear_1 6 rfl) rfl get2 ?_
        refine V_get h fl_X1_26 2 get2 get3 (dk dd_X1_hear_1 7 rfl) ?_
        refine V_i2l h (dk dd_X1_hear_1 8 rfl) (by omega) ?_
        refine V_callS h st2 ci_X1_30 pk_n rfl (m_J9_max_f86c9 l G _ _ (by omega) (by omega)) rfl rfl (Nat.le_of_ble_eq_true rfl) (by decide) ⟨rfl, rfl, rfl⟩ (dk dd_X1_hear_1 9 rfl) sk1 sm_n ?_
        refine V_last h 1 get1 (by omega) set1 (dk dd_X1_hear_1 10 rfl) ?_
        refine V_vret h hF (dk dd_X1_hear_1 11 rfl) ⟨Nat.le_of_ble_eq_true rfl, Nat.le_of_ble_eq_true rfl⟩ ?_
        exact det_v rfl
    · exfalso; omega

set_option maxHeartbeats 4000000 in
set_option maxRecDepth 100000 in
theorem m_X1_numberOf (l : Launch) (G : GT) (a b : Nat) (A : Int → Int) (x y : Int) (hx : R32 x) (hy : R32 y) : Ctr l G yX1_numberOf cX1_numberOf 3 (Option.some FieldType.long) (rmO 0 0 0 0) [.ref a, .int (iZ x), .int (iZ y)] [(a, .inr (0, [.ref b])), (b, .inl (G.2 1, 48, .inr (.inl (lF A))))] (Det (some (.long (lZ (earL A x y)))) [(a, .inr (0, [.ref b])), (b, .inl (G.2 1, 48, .inr (.inl (lF A))))]) := by
  refine Ctr.go (own := RX1) (nm := "numberOf") (by decide +kernel) rfl rfl [some (.ref a), some (.int (iZ x)), some (.int (iZ y))] 0 rfl rfl (Nat.le_of_ble_eq_true rfl) ?_
  intro K h hF
  refine V_iload_n h (dk dd_X1_numberOf_0 0 rfl) rfl get1 ?_
  refine V_if_lt (tgt := 19) h (dk dd_X1_numberOf_0 1 rfl) rfl (by omega) (fun c1 => ?_) (fun c1 => ?_)
  · refine V_ldc2 h q3_55 (dk dd_X1_numberOf_0 10 rfl) ?_
    refine V_lret h hF (dk dd_X1_numberOf_0 11 rfl) ⟨Nat.le_of_ble_eq_true rfl, Nat.le_of_ble_eq_true rfl⟩ ?_
    exact det_l (by unfold earL; split <;> first | rfl | omega) rfl
  · refine V_iload_n h (dk dd_X1_numberOf_0 2 rfl) rfl get1 ?_
    refine V_bipush h (dk dd_X1_numberOf_0 3 rfl) (by decide) ?_
    refine V_icmp_ge (tgt := 19) h (dk dd_X1_numberOf_0 4 rfl) rfl (by omega) (fun c7 => ?_) (fun c7 => ?_)
    · refine V_ldc2 h q3_55 (dk dd_X1_numberOf_0 10 rfl) ?_
      refine V_lret h hF (dk dd_X1_numberOf_0 11 rfl) ⟨Nat.le_of_ble_eq_true rfl, Nat.le_of_ble_eq_true rfl⟩ ?_
      exact det_l (by unfold earL; split <;> first | rfl | omega) rfl
    · refine V_iload_n h (dk dd_X1_numberOf_0 5 rfl) rfl get2 ?_
      refine V_if_lt (tgt := 19) h (dk dd_X1_numberOf_0 6 rfl) rfl (by omega) (fun c11 => ?_) (fun c11 => ?_)
      · refine V_ldc2 h q3_55 (dk dd_X1_numberOf_0 10 rfl) ?_
        refine V_lret h hF (dk dd_X1_numberOf_0 11 rfl) ⟨Nat.le_of_ble_eq_true rfl, Nat.le_of_ble_eq_true rfl⟩ ?_
        exact det_l (by unfold earL; split <;> first | rfl | omega) rfl
      · refine V_iload_n h (dk dd_X1_numberOf_0 7 rfl) rfl get2 ?_
        refine V_iconst h (dk dd_X1_numberOf_0 8 rfl) ?_
        refine V_icmp_lt (tgt := 23) h (dk dd_X1_numberOf_0 9 rfl) rfl (by omega) (fun c16 => ?_) (fun c16 => ?_)
        · refine V_aload_n h (dk dd_X1_numberOf_0 12 rfl) rfl get0 ?_
          refine V_get h fl_X1_9 0 get0 get0 (dk dd_X1_numberOf_0 13 rfl) ?_
          refine V_iload_n h (dk dd_X1_numberOf_0 14 rfl) rfl get1 ?_
          refine V_iconst h (dk dd_X1_numberOf_0 15 rfl) ?_
          refine V_imul h (dk dd_X1_numberOf_0 16 rfl) ?_
          refine V_iload_n h (dk dd_X1_numberOf_0 17 rfl) rfl get2 ?_
          refine V_iadd h (dk dd_X1_numberOf_0 18 rfl) ?_
          refine V_lald h 1 get1 (by omega) (dk dd_X1_numberOf_0 19 rfl) ?_
          refine V_lret h hF (dk dd_X1_numberOf_0 20 rfl) ⟨Nat.le_of_ble_eq_true rfl, Nat.le_of_ble_eq_true rfl⟩ ?_
          exact det_l (by unfold earL; split <;> first | rfl | omega) rfl
        · refine V_ldc2 h q3_55 (dk dd_X1_numberOf_0 10 rfl) ?_
          refine V_lret h hF (dk dd_X1_numberOf_0 11 rfl) ⟨Nat.le_of_ble_eq_true rfl, Nat.le_of_ble_eq_true rfl⟩ ?_
          exact det_l (by unfold earL; split <;> first | rfl | omega) rfl

set_option maxHeartbeats 4000000 in
set_option maxRecDepth 100000 in
theorem m_X5_goTo (l : Launch) (G : GT) (a b : Nat) (c : Int) (Cn : Int → Int) (p : Int) (hc : 0 ≤ c ∧ c ≤ 201) : Ctr l G yX5_goTo cX5_goTo 2 none (rmO 0 0 0 0) [.ref a, .int (iZ p)] [(a, .inr (4, [.ref b, .int (iZ c)])), (b, .inl (G.2 0, 201, .inl (iF Cn)))] (Det none [(a, .inr (4, [.ref b, .int (iZ (goC c))])), (b, .inl (G.2 0, 201, .inl (iF (goF Cn c p))))]) := by
  refine Ctr.go (own := RX5) (nm := "goTo") (by decide +kernel) rfl rfl [some (.ref a), some (.int (iZ p))] 0 rfl rfl (Nat.le_of_ble_eq_true rfl) ?_
  intro K h hF
  refine V_aload_n h (dk dd_X5_goTo_0 0 rfl) rfl get0 ?_
  refine V_get h fl_X5_15 0 get0 get1 (dk dd_X5_goTo_0 1 rfl) ?_
  refine V_aload_n h (dk dd_X5_goTo_0 2 rfl) rfl get0 ?_
  refine V_get h fl_X5_9 0 get0 get0 (dk dd_X5_goTo_0 3 rfl) ?_
  refine V_alen h 1 get1 0 rfl (dk dd_X5_goTo_0 4 rfl) ?_
  refine V_icmp_ge (tgt := 32) h (dk dd_X5_goTo_0 5 rfl) rfl (by omega) (fun c9 => ?_) (fun c9 => ?_)
  · refine V_vret h hF (dk dd_X5_goTo_0 18 rfl) ⟨Nat.le_of_ble_eq_true rfl, Nat.le_of_ble_eq_true rfl⟩ ?_
    first | exact det_v (by unfold goC goF; rw [if_neg (by omega), if_neg (by omega)]) | exact det_v (by unfold goC goF; rw [if_pos (by omega), if_pos (by omega)])
  · refine V_aload_n h (dk dd_X5_goTo_0 6 rfl) rfl get0 ?_
    refine V_get h fl_X5_9 0 get0 get0 (dk dd_X5_goTo_0 7 rfl) ?_
    refine V_aload_n h (dk dd_X5_goTo_0 8 rfl) rfl get0 ?_
    refine V_get h fl_X5_15 0 get0 get1 (dk dd_X5_goTo_0 9 rfl) ?_
    refine V_iload_n h (dk dd_X5_goTo_0 10 rfl) rfl get1 ?_
    refine V_iast h 1 get1 (by omega) set1 (dk dd_X5_goTo_0 11 rfl) ?_
    refine V_aload_n h (dk dd_X5_goTo_0 12 rfl) rfl get0 ?_
    refine V_dup h (dk dd_X5_goTo_0 13 rfl) rfl ?_
    refine V_get h fl_X5_15 0 get0 get1 (dk dd_X5_goTo_0 14 rfl) ?_
    refine V_iconst h (dk dd_X5_goTo_0 15 rfl) ?_
    refine V_iadd h (dk dd_X5_goTo_0 16 rfl) ?_
    refine V_put h pf_X5_15 0 get0 (Nat.le_of_ble_eq_true rfl) set1 set0 rfl rfl (dk dd_X5_goTo_0 17 rfl) ?_
    refine V_vret h hF (dk dd_X5_goTo_0 18 rfl) ⟨Nat.le_of_ble_eq_true rfl, Nat.le_of_ble_eq_true rfl⟩ ?_
    first | exact det_v (by unfold goC goF; rw [if_neg (by omega), if_neg (by omega)]) | exact det_v (by unfold goC goF; rw [if_pos (by omega), if_pos (by omega)])

set_option maxHeartbeats 4000000 in
set_option maxRecDepth 100000 in
theorem m_X5_startAt (l : Launch) (G : GT) (a b : Nat) (c : Int) (Cn : Int → Int) (p : Int)  : Ctr l G yX5_startAt cX5_startAt 2 none (rmO 1 0 0 21) [.ref a, .int (iZ p)] [(a, .inr (4, [.ref b, .int (iZ c)])), (b, .inl (G.2 0, 201, .inl (iF Cn)))] (Det none [(a, .inr (4, [.ref b, .int (iZ 1)])), (b, .inl (G.2 0, 201, .inl (iF (zup Cn 0 p))))]) := by
  refine Ctr.go (own := RX5) (nm := "startAt") (by decide +kernel) rfl rfl [some (.ref a), some (.int (iZ p))] 0 rfl rfl (Nat.le_of_ble_eq_true rfl) ?_
  intro K h hF
  refine V_aload_n h (dk dd_X5_startAt_0 0 rfl) rfl get0 ?_
  refine V_iconst h (dk dd_X5_startAt_0 1 rfl) ?_
  refine V_put h pf_X5_15 0 get0 (Nat.le_of_ble_eq_true rfl) set1 set0 rfl rfl (dk dd_X5_startAt_0 2 rfl) ?_
  refine V_aload_n h (dk dd_X5_startAt_0 3 rfl) rfl get0 ?_
  refine V_iload_n h (dk dd_X5_startAt_0 4 rfl) rfl get1 ?_
  refine V_callV h st2 ci_X5_19 (pk_c get0 (pk_c get1 pk_n)) rfl 0 get0 rfl (m_X5_goTo l G _ _ _ _ _ (by omega)) rfl rfl (Nat.le_of_ble_eq_true rfl) (by decide) ⟨rfl, rfl, rfl⟩ (dk dd_X5_startAt_0 5 rfl) sk0 (sm_c set0 (sm_c set1 sm_n)) ?_
  refine V_vret h hF (dk dd_X5_startAt_0 6 rfl) ⟨Nat.le_of_ble_eq_true rfl, Nat.le_of_ble_eq_true rfl⟩ ?_
  exact det_v rfl

set_option maxHeartbeats 4000000 in
set_option maxRecDepth 100000 in
theorem m_X5_isBetween (l : Launch) (G : GT) (y x z : Int) (hl : R32 y) (hx : R32 x) (hh : R32 z) : Ctr l G yX5_isBetween cX5_isBetween 3 (Option.some FieldType.boolean) (rmO 0 0 0 0) [.int (iZ y), .int (iZ x), .int (iZ z)] [] (Det (some (.int (iZ (bZ (btwP y x z))))) []) := by
  refine Ctr.go (own := RX5) (nm := "isBetween") (by decide +kernel) rfl rfl [some (.int (iZ y)), some (.int (iZ x)), some (.int (iZ z))] 0 rfl rfl (Nat.le_of_ble_eq_true rfl) ?_
  intro K h hF
  refine V_iload_n h (dk dd_X5_isBetween_0 0 rfl) rfl get0 ?_
  refine V_iload_n h (dk dd_X5_isBetween_0 1 rfl) rfl get1 ?_
  refine V_icmp_ge (tgt := 14) h (dk dd_X5_isBetween_0 2 rfl) rfl (by omega) (fun c2 => ?_) (fun c2 => ?_)
  · refine V_iconst h (dk dd_X5_isBetween_0 8 rfl) ?_
    refine V_zret h hF (dk dd_X5_isBetween_0 9 rfl) ⟨Nat.le_of_ble_eq_true rfl, Nat.le_of_ble_eq_true rfl⟩ (by first | exact Or.inr rfl | exact Or.inl rfl | exact bZ_01 | omega) ?_
    exact det_i (by first | exact (bZ_t (by omega)).symm | exact (bZ_f (by omega)).symm | rfl) rfl
  · refine V_iload_n h (dk dd_X5_isBetween_0 3 rfl) rfl get1 ?_
    refine V_iload_n h (dk dd_X5_isBetween_0 4 rfl) rfl get2 ?_
    refine V_icmp_ge (tgt := 14) h (dk dd_X5_isBetween_0 5 rfl) rfl (by omega) (fun c7 => ?_) (fun c7 => ?_)
    · refine V_iconst h (dk dd_X5_isBetween_0 8 rfl) ?_
      refine V_zret h hF (dk dd_X5_isBetween_0 9 rfl) ⟨Nat.le_of_ble_eq_true rfl, Nat.le_of_ble_eq_true rfl⟩ (by first | exact Or.inr rfl | exact Or.inl rfl | exact bZ_01 | omega) ?_
      exact det_i (by first | exact (bZ_t (by omega)).symm | exact (bZ_f (by omega)).symm | rfl) rfl
    · refine V_iconst h (dk dd_X5_isBetween_0 6 rfl) ?_
      refine V_goto (tgt := 15) h (dk dd_X5_isBetween_0 7 rfl) rfl ?_
      refine V_zret h hF (dk dd_X5_isBetween_0 9 rfl) ⟨Nat.le_of_ble_eq_true rfl, Nat.le_of_ble_eq_true rfl⟩ (by first | exact Or.inr rfl | exact Or.inl rfl | exact bZ_01 | omega) ?_
      exact det_i (by first | exact (bZ_t (by omega)).symm | exact (bZ_f (by omega)).symm | rfl) rfl

set_option maxHeartbeats 4000000 in
set_option maxRecDepth 100000 in
theorem m_X5_isBeyond (l : Launch) (G : GT) (y x z : Int) (hl : R32 y) (hx : R32 x) (hh : R32 z) : Ctr l G yX5_isBeyond cX5_isBeyond 3 (Option.some FieldType.boolean) (rmO 0 0 0 0) [.int (iZ y), .int (iZ x), .int (iZ z)] [] (Det (some (.int (iZ (bZ (beyP y x z))))) []) := by
  refine Ctr.go (own := RX5) (nm := "isBeyond") (by decide +kernel) rfl rfl [some (.int (iZ y)), some (.int (iZ x)), some (.int (iZ z))] 0 rfl rfl (Nat.le_of_ble_eq_true rfl) ?_
  intro K h hF
  refine V_iload_n h (dk dd_X5_isBeyond_0 0 rfl) rfl get1 ?_
  refine V_iload_n h (dk dd_X5_isBeyond_0 1 rfl) rfl get0 ?_
  refine V_icmp_lt (tgt := 10) h (dk dd_X5_isBeyond_0 2 rfl) rfl (by omega) (fun c2 => ?_) (fun c2 => ?_)
  · refine V_iconst h (dk dd_X5_isBeyond_0 6 rfl) ?_
    refine V_goto (tgt := 15) h (dk dd_X5_isBeyond_0 7 rfl) rfl ?_
    refine V_zret h hF (dk dd_X5_isBeyond_0 9 rfl) ⟨Nat.le_of_ble_eq_true rfl, Nat.le_of_ble_eq_true rfl⟩ (by first | exact Or.inr rfl | exact Or.inl rfl | exact bZ_01 | omega) ?_
    exact det_i (by first | exact (bZ_t (by omega)).symm | exact (bZ_f (by omega)).symm | rfl) rfl
  · refine V_iload_n h (dk dd_X5_isBeyond_0 3 rfl) rfl get1 ?_
    refine V_iload_n h (dk dd_X5_isBeyond_0 4 rfl) rfl get2 ?_
    refine V_icmp_le (tgt := 14) h (dk dd_X5_isBeyond_0 5 rfl) rfl (by omega) (fun c7 => ?_) (fun c7 => ?_)
    · refine V_iconst h (dk dd_X5_isBeyond_0 8 rfl) ?_
      refine V_zret h hF (dk dd_X5_isBeyond_0 9 rfl) ⟨Nat.le_of_ble_eq_true rfl, Nat.le_of_ble_eq_true rfl⟩ (by first | exact Or.inr rfl | exact Or.inl rfl | exact bZ_01 | omega) ?_
      exact det_i (by first | exact (bZ_t (by omega)).symm | exact (bZ_f (by omega)).symm | rfl) rfl
    · refine V_iconst h (dk dd_X5_isBeyond_0 6 rfl) ?_
      refine V_goto (tgt := 15) h (dk dd_X5_isBeyond_0 7 rfl) rfl ?_
      refine V_zret h hF (dk dd_X5_isBeyond_0 9 rfl) ⟨Nat.le_of_ble_eq_true rfl, Nat.le_of_ble_eq_true rfl⟩ (by first | exact Or.inr rfl | exact Or.inl rfl | exact bZ_01 | omega) ?_
      exact det_i (by first | exact (bZ_t (by omega)).symm | exact (bZ_f (by omega)).symm | rfl) rfl

set_option maxHeartbeats 4000000 in
set_option maxRecDepth 100000 in
theorem m_X5_cross (l : Launch) (G : GT) (x y z u : Int) (hx : R32 x) (hy : R32 y) (hz : R32 z) (hu : R32 u) : Ctr l G yX5_cross cX5_cross 6 (Option.some FieldType.boolean) (rmO 1 0 0 22) [.int (iZ x), .int (iZ y), .int (iZ z), .int (iZ u)] [] (Det (some (.int (iZ (bZ (crossP x y z u))))) []) := by
  refine Ctr.go (own := RX5) (nm := "cross") (by decide +kernel) rfl rfl [some (.int (iZ x)), some (.int (iZ y)), some (.int (iZ z)), some (.int (iZ u)), none, none] 2 rfl rfl (Nat.le_of_ble_eq_true rfl) ?_
  intro K h hF
  refine V_iload_n h (dk dd_X5_cross_0 0 rfl) rfl get0 ?_
  refine V_iload_n h (dk dd_X5_cross_0 1 rfl) rfl get1 ?_
  refine V_callS h st2 ci_X5_23 pk_n rfl (m_J9_min_7cf53 l G _ _ (by omega) (by omega)) rfl rfl (Nat.le_of_ble_eq_true rfl) (by decide) ⟨rfl, rfl, rfl⟩ (dk dd_X5_cross_0 2 rfl) sk1 sm_n ?_
  refine V_istore h (dk dd_X5_cross_0 3 rfl) (Nat.le_of_ble_eq_true rfl) rfl set4 ?_
  refine V_iload_n h (dk dd_X5_cross_0 4 rfl) rfl get0 ?_
  refine V_iload_n h (dk dd_X5_cross_0 5 rfl) rfl get1 ?_
  refine V_callS h st2 ci_X5_33 pk_n rfl (m_J9_max_7cf53 l G _ _ (by omega) (by omega)) rfl rfl (Nat.le_of_ble_eq_true rfl) (by decide) ⟨rfl, rfl, rfl⟩ (dk dd_X5_cross_0 6 rfl) sk1 sm_n ?_
  refine V_istore h (dk dd_X5_cross_0 7 rfl) (Nat.le_of_ble_eq_true rfl) rfl set5 ?_
  refine V_iload h (dk dd_X5_cross_0 8 rfl) get4 ?_
  refine V_iload_n h (dk dd_X5_cross_0 9 rfl) rfl get2 ?_
  refine V_iload h (dk dd_X5_cross_0 10 rfl) get5 ?_
  refine V_callS h st3 ci_X5_36 pk_n rfl (m_X5_isBetween l G _ _ _ (by omega) (by omega) (by omega)) rfl rfl (Nat.le_of_ble_eq_true rfl) (by decide) ⟨rfl, rfl, rfl⟩ (dk dd_X5_cross_0 11 rfl) sk1 sm_n ?_
  refine V_ifz_eq (tgt := 36) h (dk dd_X5_cross_0 12 rfl) rfl (fun c22 => ?_) (fun c22 => ?_)
  · refine V_iload h (dk dd_X5_cross_0 18 rfl) get4 ?_
    refine V_iload_n h (dk dd_X5_cross_0 19 rfl) rfl get2 ?_
    refine V_iload h (dk dd_X5_cross_0 20 rfl) get5 ?_
    refine V_callS h st3 ci_X5_40 pk_n rfl (m_X5_isBeyond l G _ _ _ (by omega) (by omega) (by omega)) rfl rfl (Nat.le_of_ble_eq_true rfl) (by decide) ⟨rfl, rfl, rfl⟩ (dk dd_X5_cross_0 21 rfl) sk1 sm_n ?_
    refine V_ifz_eq (tgt := 62) h (dk dd_X5_cross_0 22 rfl) rfl (fun c44 => ?_) (fun c44 => ?_)
    · refine V_iconst h (dk dd_X5_cross_0 30 rfl) ?_
      refine V_zret h hF (dk dd_X5_cross_0 31 rfl) ⟨Nat.le_of_ble_eq_true rfl, Nat.le_of_ble_eq_true rfl⟩ (by first | exact Or.inr rfl | exact Or.inl rfl | exact bZ_01 | omega) ?_
      exact det_i (by first | exact (bZ_t (by omega)).symm | exact (bZ_f (by omega)).symm | rfl) rfl
    · refine V_iload h (dk dd_X5_cross_0 23 rfl) get4 ?_
      refine V_iload_n h (dk dd_X5_cross_0 24 rfl) rfl get3 ?_
      refine V_iload h (dk dd_X5_cross_0 25 rfl) get5 ?_
      refine V_callS h st3 ci_X5_36 pk_n rfl (m_X5_isBetween l G _ _ _ (by omega) (by omega) (by omega)) rfl rfl (Nat.le_of_ble_eq_true rfl) (by decide) ⟨rfl, rfl, rfl⟩ (dk dd_X5_cross_0 26 rfl) sk1 sm_n ?_
      refine V_ifz_eq (tgt := 62) h (dk dd_X5_cross_0 27 rfl) rfl (fun c55 => ?_) (fun c55 => ?_)
      · refine V_iconst h (dk dd_X5_cross_0 30 rfl) ?_
        refine V_zret h hF (dk dd_X5_cross_0 31 rfl) ⟨Nat.le_of_ble_eq_true rfl, Nat.le_of_ble_eq_true rfl⟩ (by first | exact Or.inr rfl | exact Or.inl rfl | exact bZ_01 | omega) ?_
        exact det_i (by first | exact (bZ_t (by omega)).symm | exact (bZ_f (by omega)).symm | rfl) rfl
      · refine V_iconst h (dk dd_X5_cross_0 28 rfl) ?_
        refine V_goto (tgt := 63) h (dk dd_X5_cross_0 29 rfl) rfl ?_
        refine V_zret h hF (dk dd_X5_cross_0 31 rfl) ⟨Nat.le_of_ble_eq_true rfl, Nat.le_of_ble_eq_true rfl⟩ (by first | exact Or.inr rfl | exact Or.inl rfl | exact bZ_01 | omega) ?_
        exact det_i (by first | exact (bZ_t (by omega)).symm | exact (bZ_f (by omega)).symm | rfl) rfl
  · refine V_iload h (dk dd_X5_cross_0 13 rfl) get4 ?_
    refine V_iload_n h (dk dd_X5_cross_0 14 rfl) rfl get3 ?_
    refine V_iload h (dk dd_X5_cross_0 15 rfl) get5 ?_
    refine V_callS h st3 ci_X5_40 pk_n rfl (m_X5_isBeyond l G _ _ _ (by omega) (by omega) (by omega)) rfl rfl (Nat.le_of_ble_eq_true rfl) (by decide) ⟨rfl, rfl, rfl⟩ (dk dd_X5_cross_0 16 rfl) sk1 sm_n ?_
    refine V_ifz_ne (tgt := 58) h (dk dd_X5_cross_0 17 rfl) rfl (fun c33 => ?_) (fun c33 => ?_)
    · refine V_iconst h (dk dd_X5_cross_0 28 rfl) ?_
      refine V_goto (tgt := 63) h (dk dd_X5_cross_0 29 rfl) rfl ?_
      refine V_zret h hF (dk dd_X5_cross_0 31 rfl) ⟨Nat.le_of_ble_eq_true rfl, Nat.le_of_ble_eq_true rfl⟩ (by first | exact Or.inr rfl | exact Or.inl rfl | exact bZ_01 | omega) ?_
      exact det_i (by first | exact (bZ_t (by omega)).symm | exact (bZ_f (by omega)).symm | rfl) rfl
    · refine V_iload h (dk dd_X5_cross_0 18 rfl) get4 ?_
      refine V_iload_n h (dk dd_X5_cross_0 19 rfl) rfl get2 ?_
      refine V_iload h (dk dd_X5_cross_0 20 rfl) get5 ?_
      refine V_callS h st3 ci_X5_40 pk_n rfl (m_X5_isBeyond l G _ _ _ (by omega) (by omega) (by omega)) rfl rfl (Nat.le_of_ble_eq_true rfl) (by decide) ⟨rfl, rfl, rfl⟩ (dk dd_X5_cross_0 21 rfl) sk1 sm_n ?_
      refine V_ifz_eq (tgt := 62) h (dk dd_X5_cross_0 22 rfl) rfl (fun c44_2 => ?_) (fun c44_2 => ?_)
      · refine V_iconst h (dk dd_X5_cross_0 30 rfl) ?_
        refine V_zret h hF (dk dd_X5_cross_0 31 rfl) ⟨Nat.le_of_ble_eq_true rfl, Nat.le_of_ble_eq_true rfl⟩ (by first | exact Or.inr rfl | exact Or.inl rfl | exact bZ_01 | omega) ?_
        exact det_i (by first | exact (bZ_t (by omega)).symm | exact (bZ_f (by omega)).symm | rfl) rfl
      · refine V_iload h (dk dd_X5_cross_0 23 rfl) get4 ?_
        refine V_iload_n h (dk dd_X5_cross_0 24 rfl) rfl get3 ?_
        refine V_iload h (dk dd_X5_cross_0 25 rfl) get5 ?_
        refine V_callS h st3 ci_X5_36 pk_n rfl (m_X5_isBetween l G _ _ _ (by omega) (by omega) (by omega)) rfl rfl (Nat.le_of_ble_eq_true rfl) (by decide) ⟨rfl, rfl, rfl⟩ (dk dd_X5_cross_0 26 rfl) sk1 sm_n ?_
        refine V_ifz_eq (tgt := 62) h (dk dd_X5_cross_0 27 rfl) rfl (fun c55_2 => ?_) (fun c55_2 => ?_)
        · refine V_iconst h (dk dd_X5_cross_0 30 rfl) ?_
          refine V_zret h hF (dk dd_X5_cross_0 31 rfl) ⟨Nat.le_of_ble_eq_true rfl, Nat.le_of_ble_eq_true rfl⟩ (by first | exact Or.inr rfl | exact Or.inl rfl | exact bZ_01 | omega) ?_
          exact det_i (by first | exact (bZ_t (by omega)).symm | exact (bZ_f (by omega)).symm | rfl) rfl
        · refine V_iconst h (dk dd_X5_cross_0 28 rfl) ?_
          refine V_goto (tgt := 63) h (dk dd_X5_cross_0 29 rfl) rfl ?_
          refine V_zret h hF (dk dd_X5_cross_0 31 rfl) ⟨Nat.le_of_ble_eq_true rfl, Nat.le_of_ble_eq_true rfl⟩ (by first | exact Or.inr rfl | exact Or.inl rfl | exact bZ_01 | omega) ?_
          exact det_i (by first | exact (bZ_t (by omega)).symm | exact (bZ_f (by omega)).symm | rfl) rfl

set_option maxHeartbeats 4000000 in
set_option maxRecDepth 100000 in
theorem m_X5_crossingPairs (l : Launch) (G : GT) (a b : Nat) (c : Int) (Cn : Int → Int) (k : Int) (hc : 0 ≤ c ∧ c ≤ 201) (hk : 0 ≤ k ∧ k ≤ 200) (hC : ∀ j, 0 ≤ j → j < c → R32 (Cn j)) : Ctr l G yX5_crossingPairs cX5_crossingPairs 6 (Option.some FieldType.int) (rmO 2 0 0 47) [.ref a, .int (iZ k)] [(a, .inr (4, [.ref b, .int (iZ c)])), (b, .inl (G.2 0, 201, .inl (iF Cn)))] (Det (some (.int (iZ (pairsF Cn (min (k + 1) c))))) [(a, .inr (4, [.ref b, .int (iZ c)])), (b, .inl (G.2 0, 201, .inl (iF Cn)))]) := by
  refine Ctr.go (own := RX5) (nm := "crossingPairs") (by decide +kernel) rfl rfl [some (.ref a), some (.int (iZ k)), none, none, none, none] 4 rfl rfl (Nat.le_of_ble_eq_true rfl) ?_
  intro K h hF
  refine V_iload_n h (dk dd_X5_crossingPairs_0 0 rfl) rfl get1 ?_
  refine V_iconst h (dk dd_X5_crossingPairs_0 1 rfl) ?_
  refine V_iadd h (dk dd_X5_crossingPairs_0 2 rfl) ?_
  refine V_aload_n h (dk dd_X5_crossingPairs_0 3 rfl) rfl get0 ?_
  refine V_get h fl_X5_15 0 get0 get1 (dk dd_X5_crossingPairs_0 4 rfl) ?_
  refine V_callS h st2 ci_X5_23 pk_n rfl (m_J9_min_7cf53 l G _ _ (by omega) (by omega)) rfl rfl (Nat.le_of_ble_eq_true rfl) (by decide) ⟨rfl, rfl, rfl⟩ (dk dd_X5_crossingPairs_0 5 rfl) sk1 sm_n ?_
  refine V_istore_n h (dk dd_X5_crossingPairs_0 6 rfl) rfl (Nat.le_of_ble_eq_true rfl) rfl set2 ?_
  refine V_iconst h (dk dd_X5_crossingPairs_0 7 rfl) ?_
  refine V_istore_n h (dk dd_X5_crossingPairs_0 8 rfl) rfl (Nat.le_of_ble_eq_true rfl) rfl set3 ?_
  refine V_iconst h (dk dd_X5_crossingPairs_0 9 rfl) ?_
  refine V_istore h (dk dd_X5_crossingPairs_0 10 rfl) (Nat.le_of_ble_eq_true rfl) rfl set4 ?_
  have L16 : ∀ (fu : Nat) (i s : Int), 1 ≤ i ∧ (i ≤ min (k + 1) c ∨ i = 1) ∧ s = sumR (pairJ Cn (min (k + 1) c)) 1 (i - 1).toNat → (min (k + 1) c - i).toNat < fu → V K (0, 0) 16 [some (.ref a), some (.int (iZ k)), some (.int (iZ (min (k + 1) c))), some (.int (iZ s)), some (.int (iZ i)), none] [] [(a, .inr (4, [.ref b, .int (iZ c)])), (b, .inl (G.2 0, 201, .inl (iF Cn)))] := by
    intro fu
    induction fu with
    | zero => intro i s _ hm; exact absurd hm (Nat.not_lt_zero _)
    | succ fu ih16 =>
      intro i s hI16 hm16
      refine V_iload h (dk dd_X5_crossingPairs_0 11 rfl) get4 ?_
      refine V_iload_n h (dk dd_X5_crossingPairs_0 12 rfl) rfl get2 ?_
      refine V_icmp_ge (tgt := 87) h (dk dd_X5_crossingPairs_0 13 rfl) rfl (by omega) (fun c19 => ?_) (fun c19 => ?_)
      · refine V_iload_n h (dk dd_X5_crossingPairs_0 48 rfl) rfl get3 ?_
        refine V_iret h hF (dk dd_X5_crossingPairs_0 49 rfl) ⟨Nat.le_of_ble_eq_true rfl, Nat.le_of_ble_eq_true rfl⟩ ?_
        exact det_i (by rw [hI16.2.2]; unfold pairsF; first | rw [show (i - 1).toNat = (min (k + 1) c - 1).toNat by omega]) rfl
      · refine V_iload h (dk dd_X5_crossingPairs_0 14 rfl) get4 ?_
        refine V_iconst h (dk dd_X5_crossingPairs_0 15 rfl) ?_
        refine V_iadd h (dk dd_X5_crossingPairs_0 16 rfl) ?_
        refine V_istore h (dk dd_X5_crossingPairs_0 17 rfl) (Nat.le_of_ble_eq_true rfl) rfl set5 ?_
        have L28 : ∀ (fu : Nat) (j s2 : Int), i < j ∧ (j ≤ min (k + 1) c) ∧ s2 = s + sumR (pairI Cn i) (i + 1) (j - (i + 1)).toNat → (min (k + 1) c - j).toNat < fu → V K (0, 0) 28 [some (.ref a), some (.int (iZ k)), some (.int (iZ (min (k + 1) c))), some (.int (iZ s2)), some (.int (iZ i)), some (.int (iZ j))] [] [(a, .inr (4, [.ref b, .int (iZ c)])), (b, .inl (G.2 0, 201, .inl (iF Cn)))] := by
          intro fu
          induction fu with
          | zero => intro j s2 _ hm; exact absurd hm (Nat.not_lt_zero _)
          | succ fu ih28 =>
            intro j s2 hI28 hm28
            refine V_iload h (dk dd_X5_crossingPairs_0 18 rfl) get5 ?_
            refine V_iload_n h (dk dd_X5_crossingPairs_0 19 rfl) rfl get2 ?_
            refine V_icmp_ge (tgt := 81) h (dk dd_X5_crossingPairs_0 20 rfl) rfl (by omega) (fun c31 => ?_) (fun c31 => ?_)
            · refine V_iinc h (dk dd_X5_crossingPairs_0 46 rfl) get4 (Nat.le_of_ble_eq_true rfl) rfl set4 ?_
              refine V_goto (tgt := 16) h (dk dd_X5_crossingPairs_0 47 rfl) rfl ?_
              refine V_wk (lw_s (lw_s (lw_s (lw_s (lw_s (lw_o lw_n)))))) ?_
              exact ih16 _ _ (⟨by omega, by omega, by rw [sumR_s _ _ (by omega), ← hI16.2.2, hI28.2.2]; unfold pairJ; rw [show (j - (i + 1)).toNat = (min (k + 1) c - 1 - i).toNat by omega]⟩) (by omega)
            · have q1 := hC (i - 1) (by omega) (by omega)
              have q2 := hC i (by omega) (by omega)
              have q3 := hC (j - 1) (by omega) (by omega)
              have q4 := hC j (by omega) (by omega)
              refine V_aload_n h (dk dd_X5_crossingPairs_0 21 rfl) rfl get0 ?_
              refine V_get h fl_X5_9 0 get0 get0 (dk dd_X5_crossingPairs_0 22 rfl) ?_
              refine V_iload h (dk dd_X5_crossingPairs_0 23 rfl) get4 ?_
              refine V_iconst h (dk dd_X5_crossingPairs_0 24 rfl) ?_
              refine V_isub h (dk dd_X5_crossingPairs_0 25 rfl) ?_
              refine V_iald h 1 get1 (by omega) (dk dd_X5_crossingPairs_0 26 rfl) ?_
              refine V_aload_n h (dk dd_X5_crossingPairs_0 27 rfl) rfl get0 ?_
              refine V_get h fl_X5_9 0 get0 get0 (dk dd_X5_crossingPairs_0 28 rfl) ?_
              refine V_iload h (dk dd_X5_crossingPairs_0 29 rfl) get4 ?_
              refine V_iald h 1 get1 (by omega) (dk dd_X5_crossingPairs_0 30 rfl) ?_
              refine V_aload_n h (dk dd_X5_crossingPairs_0 31 rfl) rfl get0 ?_
              refine V_get h fl_X5_9 0 get0 get0 (dk dd_X5_crossingPairs_0 32 rfl) ?_
              refine V_iload h (dk dd_X5_crossingPairs_0 33 rfl) get5 ?_
              refine V_iconst h (dk dd_X5_crossingPairs_0 34 rfl) ?_
              refine V_isub h (dk dd_X5_crossingPairs_0 35 rfl) ?_
              refine V_iald h 1 get1 (by omega) (dk dd_X5_crossingPairs_0 36 rfl) ?_
              refine V_aload_n h (dk dd_X5_crossingPairs_0 37 rfl) rfl get0 ?_
              refine V_get h fl_X5_9 0 get0 get0 (dk dd_X5_crossingPairs_0 38 rfl) ?_
              refine V_iload h (dk dd_X5_crossingPairs_0 39 rfl) get5 ?_
              refine V_iald h 1 get1 (by omega) (dk dd_X5_crossingPairs_0 40 rfl) ?_
              refine V_callS h st4 ci_X5_29 pk_n rfl (m_X5_cross l G _ _ _ _ (by omega) (by omega) (by omega) (by omega)) rfl rfl (Nat.le_of_ble_eq_true rfl) (by decide) ⟨rfl, rfl, rfl⟩ (dk dd_X5_crossingPairs_0 41 rfl) sk1 sm_n ?_
              refine V_ifz_eq (tgt := 75) h (dk dd_X5_crossingPairs_0 42 rfl) rfl (fun c69 => ?_) (fun c69 => ?_)
              · refine V_iinc h (dk dd_X5_crossingPairs_0 44 rfl) get5 (Nat.le_of_ble_eq_true rfl) rfl set5 ?_
                refine V_goto (tgt := 28) h (dk dd_X5_crossingPairs_0 45 rfl) rfl ?_
                exact ih28 _ _ (⟨by omega, by omega, by rw [show j + 1 - (i + 1) = j + 1 - (i + 1) from rfl, sumR_s _ _ (by omega), hI28.2.2]; unfold pairI; first | rw [bZ_t c69]; omega | rw [bZ_f c69]; omega⟩) (by omega)
              · refine V_iinc h (dk dd_X5_crossingPairs_0 43 rfl) get3 (Nat.le_of_ble_eq_true rfl) rfl set3 ?_
                refine V_iinc h (dk dd_X5_crossingPairs_0 44 rfl) get5 (Nat.le_of_ble_eq_true rfl) rfl set5 ?_
                refine V_goto (tgt := 28) h (dk dd_X5_crossingPairs_0 45 rfl) rfl ?_
                exact ih28 _ _ (⟨by omega, by omega, by rw [show j + 1 - (i + 1) = j + 1 - (i + 1) from rfl, sumR_s _ _ (by omega), hI28.2.2]; unfold pairI; first | rw [bZ_t c69]; omega | rw [bZ_f c69]; omega⟩) (by omega)
        exact L28 _ _ _ (⟨by omega, by omega, by rw [show (i + 1 - (i + 1)).toNat = 0 by omega]; unfold sumR; omega⟩) (Nat.lt_succ_self _)
  exact L16 _ _ _ (⟨by omega, by omega, rfl⟩) (Nat.lt_succ_self _)

