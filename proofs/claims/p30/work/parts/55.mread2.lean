/-! GalleryRays: mean, fingerprint -/
set_option maxHeartbeats 4000000 in
set_option maxRecDepth 100000 in
theorem m_X3_meanEnergy (l : Launch) (G : GT) (a b c : Nat) (h ec es : Int) (Nn Ec : Int → Int) (hh : 0 ≤ h ∧ h ≤ 600) : Ctr l G yX3_meanEnergy cX3_meanEnergy 1 (Option.some FieldType.float) (rmO 0 0 0 0) [.ref a] [(a, .inr (2, [.ref b, .ref c, .int (iZ h), .int (iZ ec), .long (lZ es)])), (b, .inl (G.2 1, 3000, .inr (.inl (lF Nn)))), (c, .inl (G.2 0, 600, .inl (iF Ec)))] (Det (some (.float (meanV es h))) [(a, .inr (2, [.ref b, .ref c, .int (iZ h), .int (iZ ec), .long (lZ es)])), (b, .inl (G.2 1, 3000, .inr (.inl (lF Nn)))), (c, .inl (G.2 0, 600, .inl (iF Ec)))]) := by
  refine Ctr.go (own := RX3) (nm := "meanEnergy") (by decide +kernel) rfl rfl [some (.ref a)] 0 rfl rfl (Nat.le_of_ble_eq_true rfl) ?_
  intro K h hF
  refine V_aload_n h (dk dd_X3_meanEnergy_0 0 rfl) rfl get0 ?_
  refine V_get h fl_X3_19 0 get0 get2 (dk dd_X3_meanEnergy_0 1 rfl) ?_
  refine V_if_ne (tgt := 11) h (dk dd_X3_meanEnergy_0 2 rfl) rfl (by omega) (fun c4 => ?_) (fun c4 => ?_)
  · refine V_aload_n h (dk dd_X3_meanEnergy_0 5 rfl) rfl get0 ?_
    refine V_get h fl_X3_26 0 get0 get4 (dk dd_X3_meanEnergy_0 6 rfl) ?_
    refine V_l2f h (dk dd_X3_meanEnergy_0 7 rfl) ?_
    refine V_aload_n h (dk dd_X3_meanEnergy_0 8 rfl) rfl get0 ?_
    refine V_get h fl_X3_19 0 get0 get2 (dk dd_X3_meanEnergy_0 9 rfl) ?_
    refine V_i2f h (dk dd_X3_meanEnergy_0 10 rfl) ?_
    refine V_fdiv h (dk dd_X3_meanEnergy_0 11 rfl) (div_ok (by omega)) ?_
    refine V_fret h hF (dk dd_X3_meanEnergy_0 12 rfl) ⟨Nat.le_of_ble_eq_true rfl, Nat.le_of_ble_eq_true rfl⟩ ?_
    exact det_f (by unfold meanV; rw [if_neg c4]) rfl
  · refine V_fconst0 h (dk dd_X3_meanEnergy_0 3 rfl) ?_
    refine V_goto (tgt := 22) h (dk dd_X3_meanEnergy_0 4 rfl) rfl ?_
    refine V_fret h hF (dk dd_X3_meanEnergy_0 12 rfl) ⟨Nat.le_of_ble_eq_true rfl, Nat.le_of_ble_eq_true rfl⟩ ?_
    exact det_f (by unfold meanV; rw [if_pos c4]) rfl

set_option maxHeartbeats 4000000 in
set_option maxRecDepth 100000 in
theorem m_X11_mean (l : Launch) (G : GT) (x w hi tx sh : Nat) (rr lo mk ea pt : Nat) (m : Int) (lb lc : Nat) (nh ec es : Int) (Nn Ec : Int → Int) (hh : 0 ≤ nh ∧ nh ≤ 600) : Ctr l G yX11_mean cX11_mean 1 (Option.some FieldType.float) (rmO 1 0 0 20) [.ref x] [(x, .inr (10, [.ref w, .ref hi, .ref tx, .ref sh])), (sh, .inr (7, [.ref rr, .ref lo, .ref mk, .ref ea, .ref pt, .int (iZ m)])), (lo, .inr (2, [.ref lb, .ref lc, .int (iZ nh), .int (iZ ec), .long (lZ es)])), (lb, .inl (G.2 1, 3000, .inr (.inl (lF Nn)))), (lc, .inl (G.2 0, 600, .inl (iF Ec)))] (Det (some (.float (meanV es nh))) [(x, .inr (10, [.ref w, .ref hi, .ref tx, .ref sh])), (sh, .inr (7, [.ref rr, .ref lo, .ref mk, .ref ea, .ref pt, .int (iZ m)])), (lo, .inr (2, [.ref lb, .ref lc, .int (iZ nh), .int (iZ ec), .long (lZ es)])), (lb, .inl (G.2 1, 3000, .inr (.inl (lF Nn)))), (lc, .inl (G.2 0, 600, .inl (iF Ec)))]) := by
  refine Ctr.go (own := RX11) (nm := "mean") (by decide +kernel) rfl rfl [some (.ref x)] 0 rfl rfl (Nat.le_of_ble_eq_true rfl) ?_
  intro K h hF
  refine V_aload_n h (dk dd_X11_mean_0 0 rfl) rfl get0 ?_
  refine V_get h fl_X11_33 0 get0 get3 (dk dd_X11_mean_0 1 rfl) ?_
  refine V_get h fl_X11_109 1 get1 get1 (dk dd_X11_mean_0 2 rfl) ?_
  refine V_callV h st1 ci_X11_143 (pk_c get2 (pk_c get3 (pk_c get4 pk_n))) rfl 2 get2 rfl (m_X3_meanEnergy l G _ _ _ _ _ _ _ _ (by omega)) rfl rfl (Nat.le_of_ble_eq_true rfl) (by decide) ⟨rfl, rfl, rfl⟩ (dk dd_X11_mean_0 3 rfl) sk1 (sm_c set2 (sm_c set3 (sm_c set4 sm_n))) ?_
  refine V_fret h hF (dk dd_X11_mean_0 4 rfl) ⟨Nat.le_of_ble_eq_true rfl, Nat.le_of_ble_eq_true rfl⟩ ?_
  exact det_f rfl rfl

set_option maxHeartbeats 4000000 in
set_option maxRecDepth 100000 in
theorem m_X11_mixed (l : Launch) (G : GT) (a b : Int)  : Ctr l G yX11_mixed cX11_mixed 4 (Option.some FieldType.long) (rmO 0 0 0 0) [.long (lZ a), .long (lZ b)] [] (Det (some (.long (lZ (31 * a + b)))) []) := by
  refine Ctr.go (own := RX11) (nm := "mixed") (by decide +kernel) rfl rfl [some (.long (lZ a)), none, some (.long (lZ b)), none] 0 rfl rfl (Nat.le_of_ble_eq_true rfl) ?_
  intro K h hF
  refine V_ldc2 h q3_29 (dk dd_X11_mixed_0 0 rfl) ?_
  refine V_lload_n h (dk dd_X11_mixed_0 1 rfl) rfl get0 ?_
  refine V_lmul h (dk dd_X11_mixed_0 2 rfl) ?_
  refine V_lload_n h (dk dd_X11_mixed_0 3 rfl) rfl get2 ?_
  refine V_ladd h (dk dd_X11_mixed_0 4 rfl) ?_
  refine V_lret h hF (dk dd_X11_mixed_0 5 rfl) ⟨Nat.le_of_ble_eq_true rfl, Nat.le_of_ble_eq_true rfl⟩ ?_
  exact det_l (by first | rfl | omega) rfl

set_option maxHeartbeats 4000000 in
set_option maxRecDepth 100000 in
theorem m_X11_fingerprint (l : Launch) (G : GT) (x w hi tx sh : Nat) (pw aw : Nat) (n lo2 z : Int) (f : Int → Int) (rr lo mk ea pt : Nat) (m : Int) (lb lc : Nat) (nh ec es : Int) (Nn Ec : Int → Int) (mb : Nat) (cm : Int) (wd : Int → Int) (eb : Nat) (A : Int → Int) (hn : 0 ≤ n ∧ n ≤ 12) (hf : ∀ j, 0 ≤ j → j < n * 4 → R32 (f j)) (hlo : R32 lo2) (hz : R32 z) (hh : 0 ≤ nh ∧ nh ≤ 600) (hm2 : R32 m) (hcm : R32 cm) : Ctr l G yX11_fingerprint cX11_fingerprint 5 (Option.some FieldType.long) (rmO 3 0 0 65) [.ref x] [(x, .inr (10, [.ref w, .ref hi, .ref tx, .ref sh])), (w, .inr (9, [.ref pw, .int (iZ lo2), .int (iZ z)])), (pw, .inr (3, [.ref aw, .int (iZ n)])), (aw, .inl (G.2 0, 48, .inl (iF f))), (sh, .inr (7, [.ref rr, .ref lo, .ref mk, .ref ea, .ref pt, .int (iZ m)])), (lo, .inr (2, [.ref lb, .ref lc, .int (iZ nh), .int (iZ ec), .long (lZ es)])), (lb, .inl (G.2 1, 3000, .inr (.inl (lF Nn)))), (lc, .inl (G.2 0, 600, .inl (iF Ec))), (mk, .inr (5, [.ref mb, .int (iZ cm)])), (mb, .inl (G.2 1, 434, .inr (.inl (lF wd)))), (ea, .inr (0, [.ref eb])), (eb, .inl (G.2 1, 48, .inr (.inl (lF A))))] (Det (some (.long (lZ (fpM n lo2 z nh m cm f Nn A)))) [(x, .inr (10, [.ref w, .ref hi, .ref tx, .ref sh])), (w, .inr (9, [.ref pw, .int (iZ lo2), .int (iZ z)])), (pw, .inr (3, [.ref aw, .int (iZ n)])), (aw, .inl (G.2 0, 48, .inl (iF f))), (sh, .inr (7, [.ref rr, .ref lo, .ref mk, .ref ea, .ref pt, .int (iZ m)])), (lo, .inr (2, [.ref lb, .ref lc, .int (iZ nh), .int (iZ ec), .long (lZ es)])), (lb, .inl (G.2 1, 3000, .inr (.inl (lF Nn)))), (lc, .inl (G.2 0, 600, .inl (iF Ec))), (mk, .inr (5, [.ref mb, .int (iZ cm)])), (mb, .inl (G.2 1, 434, .inr (.inl (lF wd)))), (ea, .inr (0, [.ref eb])), (eb, .inl (G.2 1, 48, .inr (.inl (lF A))))]) := by
  refine Ctr.go (own := RX11) (nm := "fingerprint") (by decide +kernel) rfl rfl [some (.ref x), none, none, none, none] 4 rfl rfl (Nat.le_of_ble_eq_true rfl) ?_
  intro K h hF
  refine V_ldc2 h q3_24 (dk dd_X11_fingerprint_0 0 rfl) ?_
  refine V_aload_n h (dk dd_X11_fingerprint_0 1 rfl) rfl get0 ?_
  refine V_callV h st1 ci_X11_180 (pk_c get0 (pk_c get1 (pk_c get2 (pk_c get3 pk_n)))) rfl 0 get0 rfl (m_X11_parts l G _ _ _ _ _ _ _ _ _ _ _ ) rfl rfl (Nat.le_of_ble_eq_true rfl) (by decide) ⟨rfl, rfl, rfl⟩ (dk dd_X11_fingerprint_0 2 rfl) sk1 (sm_c set0 (sm_c set1 (sm_c set2 (sm_c set3 sm_n)))) ?_
  refine V_i2l h (dk dd_X11_fingerprint_0 3 rfl) (by omega) ?_
  refine V_callS h st2 ci_X11_182 pk_n rfl (m_X11_mixed l G _ _ ) rfl rfl (Nat.le_of_ble_eq_true rfl) (by decide) ⟨rfl, rfl, rfl⟩ (dk dd_X11_fingerprint_0 4 rfl) sk1 sm_n ?_
  rw [show (31 : Int) * 127 + n = 3937 + n from rfl]
  refine V_lstore_n h (dk dd_X11_fingerprint_0 5 rfl) rfl (Nat.le_of_ble_eq_true rfl) rfl set1 set2 ?_
  refine V_iconst h (dk dd_X11_fingerprint_0 6 rfl) ?_
  refine V_istore_n h (dk dd_X11_fingerprint_0 7 rfl) rfl (Nat.le_of_ble_eq_true rfl) rfl set3 ?_
  have L14 : ∀ (fu : Nat) (t i : Int), 0 ≤ i ∧ i ≤ n ∧ t = fold31 f (i * 4).toNat (3937 + n) → (n - i).toNat < fu → V K (0, 0) 14 [some (.ref x), some (.long (lZ t)), none, some (.int (iZ i)), none] [] [(x, .inr (10, [.ref w, .ref hi, .ref tx, .ref sh])), (w, .inr (9, [.ref pw, .int (iZ lo2), .int (iZ z)])), (pw, .inr (3, [.ref aw, .int (iZ n)])), (aw, .inl (G.2 0, 48, .inl (iF f))), (sh, .inr (7, [.ref rr, .ref lo, .ref mk, .ref ea, .ref pt, .int (iZ m)])), (lo, .inr (2, [.ref lb, .ref lc, .int (iZ nh), .int (iZ ec), .long (lZ es)])), (lb, .inl (G.2 1, 3000, .inr (.inl (lF Nn)))), (lc, .inl (G.2 0, 600, .inl (iF Ec))), (mk, .inr (5, [.ref mb, .int (iZ cm)])), (mb, .inl (G.2 1, 434, .inr (.inl (lF wd)))), (ea, .inr (0, [.ref eb])), (eb, .inl (G.2 1, 48, .inr (.inl (lF A))))] := by
    intro fu
    induction fu with
    | zero => intro t i _ hm; exact absurd hm (Nat.not_lt_zero _)
    | succ fu ih14 =>
      intro t i hI14 hm14
      obtain ⟨hi0, hi1, he⟩ := hI14
      refine V_iload_n h (dk dd_X11_fingerprint_0 8 rfl) rfl get3 ?_
      refine V_aload_n h (dk dd_X11_fingerprint_0 9 rfl) rfl get0 ?_
      refine V_callV h st1 ci_X11_180 (pk_c get0 (pk_c get1 (pk_c get2 (pk_c get3 pk_n)))) rfl 0 get0 rfl (m_X11_parts l G _ _ _ _ _ _ _ _ _ _ _ ) rfl rfl (Nat.le_of_ble_eq_true rfl) (by decide) ⟨rfl, rfl, rfl⟩ (dk dd_X11_fingerprint_0 10 rfl) sk1 (sm_c set0 (sm_c set1 (sm_c set2 (sm_c set3 sm_n)))) ?_
      refine V_icmp_ge (tgt := 56) h (dk dd_X11_fingerprint_0 11 rfl) rfl (by omega) (fun c19 => ?_) (fun c19 => ?_)
      · have e9 : i = n := by omega
        rw [e9] at he
        refine V_lload_n h (dk dd_X11_fingerprint_0 29 rfl) rfl get1 ?_
        refine V_aload_n h (dk dd_X11_fingerprint_0 30 rfl) rfl get0 ?_
        refine V_get h fl_X11_10 0 get0 get0 (dk dd_X11_fingerprint_0 31 rfl) ?_
        refine V_get h fl_X11_73 1 get1 get1 (dk dd_X11_fingerprint_0 32 rfl) ?_
        refine V_i2l h (dk dd_X11_fingerprint_0 33 rfl) (by omega) ?_
        refine V_callS h st2 ci_X11_182 pk_n rfl (m_X11_mixed l G _ _ ) rfl rfl (Nat.le_of_ble_eq_true rfl) (by decide) ⟨rfl, rfl, rfl⟩ (dk dd_X11_fingerprint_0 34 rfl) sk1 sm_n ?_
        refine V_lstore_n h (dk dd_X11_fingerprint_0 35 rfl) rfl (Nat.le_of_ble_eq_true rfl) rfl set1 set2 ?_
        refine V_lload_n h (dk dd_X11_fingerprint_0 36 rfl) rfl get1 ?_
        refine V_aload_n h (dk dd_X11_fingerprint_0 37 rfl) rfl get0 ?_
        refine V_get h fl_X11_10 0 get0 get0 (dk dd_X11_fingerprint_0 38 rfl) ?_
        refine V_get h fl_X11_77 1 get1 get2 (dk dd_X11_fingerprint_0 39 rfl) ?_
        refine V_i2l h (dk dd_X11_fingerprint_0 40 rfl) (by omega) ?_
        refine V_callS h st2 ci_X11_182 pk_n rfl (m_X11_mixed l G _ _ ) rfl rfl (Nat.le_of_ble_eq_true rfl) (by decide) ⟨rfl, rfl, rfl⟩ (dk dd_X11_fingerprint_0 41 rfl) sk1 sm_n ?_
        refine V_lstore_n h (dk dd_X11_fingerprint_0 42 rfl) rfl (Nat.le_of_ble_eq_true rfl) rfl set1 set2 ?_
        refine V_lload_n h (dk dd_X11_fingerprint_0 43 rfl) rfl get1 ?_
        refine V_aload_n h (dk dd_X11_fingerprint_0 44 rfl) rfl get0 ?_
        refine V_callV h st1 ci_X11_189 (pk_c get0 (pk_c get4 (pk_c get5 (pk_c get6 (pk_c get7 pk_n))))) rfl 0 get0 rfl (m_X11_hits l G _ _ _ _ _ _ _ _ _ _ _ _ _ _ _ _ _ _ ) rfl rfl (Nat.le_of_ble_eq_true rfl) (by decide) ⟨rfl, rfl, rfl⟩ (dk dd_X11_fingerprint_0 45 rfl) sk1 (sm_c set0 (sm_c set4 (sm_c set5 (sm_c set6 (sm_c set7 sm_n))))) ?_
        refine V_i2l h (dk dd_X11_fingerprint_0 46 rfl) (by omega) ?_
        refine V_callS h st2 ci_X11_182 pk_n rfl (m_X11_mixed l G _ _ ) rfl rfl (Nat.le_of_ble_eq_true rfl) (by decide) ⟨rfl, rfl, rfl⟩ (dk dd_X11_fingerprint_0 47 rfl) sk1 sm_n ?_
        refine V_lstore_n h (dk dd_X11_fingerprint_0 48 rfl) rfl (Nat.le_of_ble_eq_true rfl) rfl set1 set2 ?_
        refine V_lload_n h (dk dd_X11_fingerprint_0 49 rfl) rfl get1 ?_
        refine V_aload_n h (dk dd_X11_fingerprint_1 0 rfl) rfl get0 ?_
        refine V_callV h st1 ci_X11_192 (pk_c get0 (pk_c get4 pk_n)) rfl 0 get0 rfl (m_X11_rays l G _ _ _ _ _ _ _ _ _ _ _ ) rfl rfl (Nat.le_of_ble_eq_true rfl) (by decide) ⟨rfl, rfl, rfl⟩ (dk dd_X11_fingerprint_1 1 rfl) sk1 (sm_c set0 (sm_c set4 sm_n)) ?_
        refine V_i2l h (dk dd_X11_fingerprint_1 2 rfl) (by omega) ?_
        refine V_callS h st2 ci_X11_182 pk_n rfl (m_X11_mixed l G _ _ ) rfl rfl (Nat.le_of_ble_eq_true rfl) (by decide) ⟨rfl, rfl, rfl⟩ (dk dd_X11_fingerprint_1 3 rfl) sk1 sm_n ?_
        refine V_lstore_n h (dk dd_X11_fingerprint_1 4 rfl) rfl (Nat.le_of_ble_eq_true rfl) rfl set1 set2 ?_
        refine V_lload_n h (dk dd_X11_fingerprint_1 5 rfl) rfl get1 ?_
        refine V_aload_n h (dk dd_X11_fingerprint_1 6 rfl) rfl get0 ?_
        refine V_callV h st1 ci_X11_195 (pk_c get0 (pk_c get4 (pk_c get8 (pk_c get9 pk_n)))) rfl 0 get0 rfl (m_X11_coverage l G _ _ _ _ _ _ _ _ _ _ _ _ _ _ ) rfl rfl (Nat.le_of_ble_eq_true rfl) (by decide) ⟨rfl, rfl, rfl⟩ (dk dd_X11_fingerprint_1 7 rfl) sk1 (sm_c set0 (sm_c set4 (sm_c set8 (sm_c set9 sm_n)))) ?_
        refine V_i2l h (dk dd_X11_fingerprint_1 8 rfl) (by omega) ?_
        refine V_callS h st2 ci_X11_182 pk_n rfl (m_X11_mixed l G _ _ ) rfl rfl (Nat.le_of_ble_eq_true rfl) (by decide) ⟨rfl, rfl, rfl⟩ (dk dd_X11_fingerprint_1 9 rfl) sk1 sm_n ?_
        refine V_lstore_n h (dk dd_X11_fingerprint_1 10 rfl) rfl (Nat.le_of_ble_eq_true rfl) rfl set1 set2 ?_
        refine V_iconst h (dk dd_X11_fingerprint_1 11 rfl) ?_
        refine V_istore_n h (dk dd_X11_fingerprint_1 12 rfl) rfl (Nat.le_of_ble_eq_true rfl) rfl set3 ?_
        have L114 : ∀ (fu : Nat) (t i : Int), 0 ≤ i ∧ i ≤ nh ∧ t = fold31 Nn (i * 5).toNat (31 * (31 * (31 * (31 * (31 * fold31 f (4 * n).toNat (3937 + n) + lo2) + z) + nh) + m) + cm) → (nh - i).toNat < fu → V K (0, 0) 114 [some (.ref x), some (.long (lZ t)), none, some (.int (iZ i)), none] [] [(x, .inr (10, [.ref w, .ref hi, .ref tx, .ref sh])), (w, .inr (9, [.ref pw, .int (iZ lo2), .int (iZ z)])), (pw, .inr (3, [.ref aw, .int (iZ n)])), (aw, .inl (G.2 0, 48, .inl (iF f))), (sh, .inr (7, [.ref rr, .ref lo, .ref mk, .ref ea, .ref pt, .int (iZ m)])), (lo, .inr (2, [.ref lb, .ref lc, .int (iZ nh), .int (iZ ec), .long (lZ es)])), (lb, .inl (G.2 1, 3000, .inr (.inl (lF Nn)))), (lc, .inl (G.2 0, 600, .inl (iF Ec))), (mk, .inr (5, [.ref mb, .int (iZ cm)])), (mb, .inl (G.2 1, 434, .inr (.inl (lF wd)))), (ea, .inr (0, [.ref eb])), (eb, .inl (G.2 1, 48, .inr (.inl (lF A))))] := by
          intro fu
          induction fu with
          | zero => intro t i _ hm; exact absurd hm (Nat.not_lt_zero _)
          | succ fu ih114 =>
            intro t i hI114 hm114
            obtain ⟨hi0, hi1, he⟩ := hI114
            refine V_iload_n h (dk dd_X11_fingerprint_1 13 rfl) rfl get3 ?_
            refine V_aload_n h (dk dd_X11_fingerprint_1 14 rfl) rfl get0 ?_
            refine V_callV h st1 ci_X11_189 (pk_c get0 (pk_c get4 (pk_c get5 (pk_c get6 (pk_c get7 pk_n))))) rfl 0 get0 rfl (m_X11_hits l G _ _ _ _ _ _ _ _ _ _ _ _ _ _ _ _ _ _ ) rfl rfl (Nat.le_of_ble_eq_true rfl) (by decide) ⟨rfl, rfl, rfl⟩ (dk dd_X11_fingerprint_1 15 rfl) sk1 (sm_c set0 (sm_c set4 (sm_c set5 (sm_c set6 (sm_c set7 sm_n))))) ?_
            refine V_icmp_ge (tgt := 155) h (dk dd_X11_fingerprint_1 16 rfl) rfl (by omega) (fun c119 => ?_) (fun c119 => ?_)
            · have e9 : i = nh := by omega
              rw [e9] at he
              refine V_iconst h (dk dd_X11_fingerprint_1 33 rfl) ?_
              refine V_istore_n h (dk dd_X11_fingerprint_1 34 rfl) rfl (Nat.le_of_ble_eq_true rfl) rfl set3 ?_
              have L157 : ∀ (fu : Nat) (t i : Int), 0 ≤ i ∧ i ≤ 12 ∧ t = fold31 A (i * 4).toNat (fold31 Nn (5 * nh).toNat (31 * (31 * (31 * (31 * (31 * fold31 f (4 * n).toNat (3937 + n) + lo2) + z) + nh) + m) + cm)) → (12 - i).toNat < fu → V K (0, 0) 157 [some (.ref x), some (.long (lZ t)), none, some (.int (iZ i)), none] [] [(x, .inr (10, [.ref w, .ref hi, .ref tx, .ref sh])), (w, .inr (9, [.ref pw, .int (iZ lo2), .int (iZ z)])), (pw, .inr (3, [.ref aw, .int (iZ n)])), (aw, .inl (G.2 0, 48, .inl (iF f))), (sh, .inr (7, [.ref rr, .ref lo, .ref mk, .ref ea, .ref pt, .int (iZ m)])), (lo, .inr (2, [.ref lb, .ref lc, .int (iZ nh), .int (iZ ec), .long (lZ es)])), (lb, .inl (G.2 1, 3000, .inr (.inl (lF Nn)))), (lc, .inl (G.2 0, 600, .inl (iF Ec))), (mk, .inr (5, [.ref mb, .int (iZ cm)])), (mb, .inl (G.2 1, 434, .inr (.inl (lF wd)))), (ea, .inr (0, [.ref eb])), (eb, .inl (G.2 1, 48, .inr (.inl (lF A))))] := by
                intro fu
                induction fu with
                | zero => intro t i _ hm; exact absurd hm (Nat.not_lt_zero _)
                | succ fu ih157 =>
                  intro t i hI157 hm157
                  obtain ⟨hi0, hi1, he⟩ := hI157
                  refine V_iload_n h (dk dd_X11_fingerprint_1 35 rfl) rfl get3 ?_
                  refine V_bipush h (dk dd_X11_fingerprint_1 36 rfl) (by decide) ?_
                  refine V_icmp_ge (tgt := 196) h (dk dd_X11_fingerprint_1 37 rfl) rfl (by omega) (fun c160 => ?_) (fun c160 => ?_)
                  · refine V_lload_n h (dk dd_X11_fingerprint_2 4 rfl) rfl get1 ?_
                    refine V_lret h hF (dk dd_X11_fingerprint_2 5 rfl) ⟨Nat.le_of_ble_eq_true rfl, Nat.le_of_ble_eq_true rfl⟩ ?_
                    have e9 : i = 12 := by omega
                    subst e9
                    exact det_l he rfl
                  · refine V_iconst h (dk dd_X11_fingerprint_1 38 rfl) ?_
                    refine V_istore h (dk dd_X11_fingerprint_1 39 rfl) (Nat.le_of_ble_eq_true rfl) rfl set4 ?_
                    have L166 : ∀ (fu : Nat) (t2 j : Int), 0 ≤ j ∧ j ≤ 4 ∧ t2 = fold31 A (i * 4 + j).toNat (fold31 Nn (5 * nh).toNat (31 * (31 * (31 * (31 * (31 * fold31 f (4 * n).toNat (3937 + n) + lo2) + z) + nh) + m) + cm)) → (4 - j).toNat < fu → V K (0, 0) 166 [some (.ref x), some (.long (lZ t2)), none, some (.int (iZ i)), some (.int (iZ j))] [] [(x, .inr (10, [.ref w, .ref hi, .ref tx, .ref sh])), (w, .inr (9, [.ref pw, .int (iZ lo2), .int (iZ z)])), (pw, .inr (3, [.ref aw, .int (iZ n)])), (aw, .inl (G.2 0, 48, .inl (iF f))), (sh, .inr (7, [.ref rr, .ref lo, .ref mk, .ref ea, .ref pt, .int (iZ m)])), (lo, .inr (2, [.ref lb, .ref lc, .int (iZ nh), .int (iZ ec), .long (lZ es)])), (lb, .inl (G.2 1, 3000, .inr (.inl (lF Nn)))), (lc, .inl (G.2 0, 600, .inl (iF Ec))), (mk, .inr (5, [.ref mb, .int (iZ cm)])), (mb, .inl (G.2 1, 434, .inr (.inl (lF wd)))), (ea, .inr (0, [.ref eb])), (eb, .inl (G.2 1, 48, .inr (.inl (lF A))))] := by
                      intro fu
                      induction fu with
                      | zero => intro t2 j _ hm; exact absurd hm (Nat.not_lt_zero _)
                      | succ fu ih166 =>
                        intro t2 j hI166 hm166
                        refine V_iload h (dk dd_X11_fingerprint_1 40 rfl) get4 ?_
                        refine V_iconst h (dk dd_X11_fingerprint_1 41 rfl) ?_
                        refine V_icmp_ge (tgt := 190) h (dk dd_X11_fingerprint_1 42 rfl) rfl (by omega) (fun c169 => ?_) (fun c169 => ?_)
                        · refine V_iinc h (dk dd_X11_fingerprint_2 2 rfl) get3 (Nat.le_of_ble_eq_true rfl) rfl set3 ?_
                          refine V_goto (tgt := 157) h (dk dd_X11_fingerprint_2 3 rfl) rfl ?_
                          refine V_wk (lw_s (lw_s (lw_s (lw_s (lw_o lw_n))))) ?_
                          exact ih157 _ _ ⟨by omega, by omega, by rw [hI166.2.2, show i * 4 + j = (i + 1) * 4 by omega]⟩ (by omega)
                        · refine V_lload_n h (dk dd_X11_fingerprint_1 43 rfl) rfl get1 ?_
                          refine V_aload_n h (dk dd_X11_fingerprint_1 44 rfl) rfl get0 ?_
                          refine V_iload_n h (dk dd_X11_fingerprint_1 45 rfl) rfl get3 ?_
                          refine V_iload h (dk dd_X11_fingerprint_1 46 rfl) get4 ?_
                          refine V_callV h st3 ci_X11_201 (pk_c get0 (pk_c get4 (pk_c get10 (pk_c get11 pk_n)))) rfl 0 get0 rfl (m_X11_heard l G _ _ _ _ _ _ _ _ _ _ _ _ _ _ _ (by omega) (by omega)) rfl rfl (Nat.le_of_ble_eq_true rfl) (by decide) ⟨rfl, rfl, rfl⟩ (dk dd_X11_fingerprint_1 47 rfl) sk1 (sm_c set0 (sm_c set4 (sm_c set10 (sm_c set11 sm_n)))) ?_
                          refine V_callS h st2 ci_X11_182 pk_n rfl (m_X11_mixed l G _ _ ) rfl rfl (Nat.le_of_ble_eq_true rfl) (by decide) ⟨rfl, rfl, rfl⟩ (dk dd_X11_fingerprint_1 48 rfl) sk1 sm_n ?_
                          refine V_lstore_n h (dk dd_X11_fingerprint_1 49 rfl) rfl (Nat.le_of_ble_eq_true rfl) rfl set1 set2 ?_
                          refine V_iinc h (dk dd_X11_fingerprint_2 0 rfl) get4 (Nat.le_of_ble_eq_true rfl) rfl set4 ?_
                          refine V_goto (tgt := 166) h (dk dd_X11_fingerprint_2 1 rfl) rfl ?_
                          exact ih166 _ _ ⟨by omega, by omega, by rw [show i * 4 + (j + 1) = i * 4 + j + 1 by omega, fold_s (by omega), ← hI166.2.2]; unfold earL; rw [if_pos (by omega)]⟩ (by omega)
                    exact L166 _ _ 0 ⟨by omega, by omega, by rw [Int.add_zero]; exact he⟩ (Nat.lt_succ_self _)
              exact L157 _ _ 0 ⟨by omega, by omega, by rw [show 5 * nh = nh * 5 by omega, ← he]; rfl⟩ (Nat.lt_succ_self _)
            · refine V_iconst h (dk dd_X11_fingerprint_1 17 rfl) ?_
              refine V_istore h (dk dd_X11_fingerprint_1 18 rfl) (Nat.le_of_ble_eq_true rfl) rfl set4 ?_
              have L125 : ∀ (fu : Nat) (t2 j : Int), 0 ≤ j ∧ j ≤ 5 ∧ t2 = fold31 Nn (i * 5 + j).toNat (31 * (31 * (31 * (31 * (31 * fold31 f (4 * n).toNat (3937 + n) + lo2) + z) + nh) + m) + cm) → (5 - j).toNat < fu → V K (0, 0) 125 [some (.ref x), some (.long (lZ t2)), none, some (.int (iZ i)), some (.int (iZ j))] [] [(x, .inr (10, [.ref w, .ref hi, .ref tx, .ref sh])), (w, .inr (9, [.ref pw, .int (iZ lo2), .int (iZ z)])), (pw, .inr (3, [.ref aw, .int (iZ n)])), (aw, .inl (G.2 0, 48, .inl (iF f))), (sh, .inr (7, [.ref rr, .ref lo, .ref mk, .ref ea, .ref pt, .int (iZ m)])), (lo, .inr (2, [.ref lb, .ref lc, .int (iZ nh), .int (iZ ec), .long (lZ es)])), (lb, .inl (G.2 1, 3000, .inr (.inl (lF Nn)))), (lc, .inl (G.2 0, 600, .inl (iF Ec))), (mk, .inr (5, [.ref mb, .int (iZ cm)])), (mb, .inl (G.2 1, 434, .inr (.inl (lF wd)))), (ea, .inr (0, [.ref eb])), (eb, .inl (G.2 1, 48, .inr (.inl (lF A))))] := by
                intro fu
                induction fu with
                | zero => intro t2 j _ hm; exact absurd hm (Nat.not_lt_zero _)
                | succ fu ih125 =>
                  intro t2 j hI125 hm125
                  refine V_iload h (dk dd_X11_fingerprint_1 19 rfl) get4 ?_
                  refine V_iconst h (dk dd_X11_fingerprint_1 20 rfl) ?_
                  refine V_icmp_ge (tgt := 149) h (dk dd_X11_fingerprint_1 21 rfl) rfl (by omega) (fun c128 => ?_) (fun c128 => ?_)
                  · refine V_iinc h (dk dd_X11_fingerprint_1 31 rfl) get3 (Nat.le_of_ble_eq_true rfl) rfl set3 ?_
                    refine V_goto (tgt := 114) h (dk dd_X11_fingerprint_1 32 rfl) rfl ?_
                    refine V_wk (lw_s (lw_s (lw_s (lw_s (lw_o lw_n))))) ?_
                    exact ih114 _ _ ⟨by omega, by omega, by rw [hI125.2.2, show i * 5 + j = (i + 1) * 5 by omega]⟩ (by omega)
                  · refine V_lload_n h (dk dd_X11_fingerprint_1 22 rfl) rfl get1 ?_
                    refine V_aload_n h (dk dd_X11_fingerprint_1 23 rfl) rfl get0 ?_
                    refine V_iload_n h (dk dd_X11_fingerprint_1 24 rfl) rfl get3 ?_
                    refine V_iload h (dk dd_X11_fingerprint_1 25 rfl) get4 ?_
                    refine V_callV h st3 ci_X11_198 (pk_c get0 (pk_c get4 (pk_c get5 (pk_c get6 (pk_c get7 pk_n))))) rfl 0 get0 rfl (m_X11_hit l G _ _ _ _ _ _ _ _ _ _ _ _ _ _ _ _ _ _ _ _ (by omega) (by omega) (by omega)) rfl rfl (Nat.le_of_ble_eq_true rfl) (by decide) ⟨rfl, rfl, rfl⟩ (dk dd_X11_fingerprint_1 26 rfl) sk1 (sm_c set0 (sm_c set4 (sm_c set5 (sm_c set6 (sm_c set7 sm_n))))) ?_
                    refine V_callS h st2 ci_X11_182 pk_n rfl (m_X11_mixed l G _ _ ) rfl rfl (Nat.le_of_ble_eq_true rfl) (by decide) ⟨rfl, rfl, rfl⟩ (dk dd_X11_fingerprint_1 27 rfl) sk1 sm_n ?_
                    refine V_lstore_n h (dk dd_X11_fingerprint_1 28 rfl) rfl (Nat.le_of_ble_eq_true rfl) rfl set1 set2 ?_
                    refine V_iinc h (dk dd_X11_fingerprint_1 29 rfl) get4 (Nat.le_of_ble_eq_true rfl) rfl set4 ?_
                    refine V_goto (tgt := 125) h (dk dd_X11_fingerprint_1 30 rfl) rfl ?_
                    exact ih125 _ _ ⟨by omega, by omega, by rw [show i * 5 + (j + 1) = i * 5 + j + 1 by omega, fold_s (by omega), ← hI125.2.2]; unfold numL; rw [if_pos (by omega)]⟩ (by omega)
              exact L125 _ _ 0 ⟨by omega, by omega, by rw [Int.add_zero]; exact he⟩ (Nat.lt_succ_self _)
        exact L114 _ _ 0 ⟨by omega, by omega, by rw [show 4 * n = n * 4 by omega, ← he]; rfl⟩ (Nat.lt_succ_self _)
      · refine V_iconst h (dk dd_X11_fingerprint_0 12 rfl) ?_
        refine V_istore h (dk dd_X11_fingerprint_0 13 rfl) (Nat.le_of_ble_eq_true rfl) rfl set4 ?_
        have L25 : ∀ (fu : Nat) (t2 j : Int), 0 ≤ j ∧ j ≤ 4 ∧ t2 = fold31 f (i * 4 + j).toNat (3937 + n) → (4 - j).toNat < fu → V K (0, 0) 25 [some (.ref x), some (.long (lZ t2)), none, some (.int (iZ i)), some (.int (iZ j))] [] [(x, .inr (10, [.ref w, .ref hi, .ref tx, .ref sh])), (w, .inr (9, [.ref pw, .int (iZ lo2), .int (iZ z)])), (pw, .inr (3, [.ref aw, .int (iZ n)])), (aw, .inl (G.2 0, 48, .inl (iF f))), (sh, .inr (7, [.ref rr, .ref lo, .ref mk, .ref ea, .ref pt, .int (iZ m)])), (lo, .inr (2, [.ref lb, .ref lc, .int (iZ nh), .int (iZ ec), .long (lZ es)])), (lb, .inl (G.2 1, 3000, .inr (.inl (lF Nn)))), (lc, .inl (G.2 0, 600, .inl (iF Ec))), (mk, .inr (5, [.ref mb, .int (iZ cm)])), (mb, .inl (G.2 1, 434, .inr (.inl (lF wd)))), (ea, .inr (0, [.ref eb])), (eb, .inl (G.2 1, 48, .inr (.inl (lF A))))] := by
          intro fu
          induction fu with
          | zero => intro t2 j _ hm; exact absurd hm (Nat.not_lt_zero _)
          | succ fu ih25 =>
            intro t2 j hI25 hm25
            refine V_iload h (dk dd_X11_fingerprint_0 14 rfl) get4 ?_
            refine V_iconst h (dk dd_X11_fingerprint_0 15 rfl) ?_
            refine V_icmp_ge (tgt := 50) h (dk dd_X11_fingerprint_0 16 rfl) rfl (by omega) (fun c28 => ?_) (fun c28 => ?_)
            · refine V_iinc h (dk dd_X11_fingerprint_0 27 rfl) get3 (Nat.le_of_ble_eq_true rfl) rfl set3 ?_
              refine V_goto (tgt := 14) h (dk dd_X11_fingerprint_0 28 rfl) rfl ?_
              refine V_wk (lw_s (lw_s (lw_s (lw_s (lw_o lw_n))))) ?_
              exact ih14 _ _ ⟨by omega, by omega, by rw [hI25.2.2, show i * 4 + j = (i + 1) * 4 by omega]⟩ (by omega)
            · have hnf : numF n f i j = f (i * 4 + j) := by unfold numF; rw [if_pos (by omega)]
              have hnR : R32 (numF n f i j) := by rw [hnf]; exact hf _ (by omega) (by omega)
              refine V_lload_n h (dk dd_X11_fingerprint_0 17 rfl) rfl get1 ?_
              refine V_aload_n h (dk dd_X11_fingerprint_0 18 rfl) rfl get0 ?_
              refine V_iload_n h (dk dd_X11_fingerprint_0 19 rfl) rfl get3 ?_
              refine V_iload h (dk dd_X11_fingerprint_0 20 rfl) get4 ?_
              refine V_callV h st3 ci_X11_186 (pk_c get0 (pk_c get1 (pk_c get2 (pk_c get3 pk_n)))) rfl 0 get0 rfl (m_X11_part l G _ _ _ _ _ _ _ _ _ _ _ _ _ (by omega) (by omega) (by omega)) rfl rfl (Nat.le_of_ble_eq_true rfl) (by decide) ⟨rfl, rfl, rfl⟩ (dk dd_X11_fingerprint_0 21 rfl) sk1 (sm_c set0 (sm_c set1 (sm_c set2 (sm_c set3 sm_n)))) ?_
              refine V_i2l h (dk dd_X11_fingerprint_0 22 rfl) (hnR) ?_
              refine V_callS h st2 ci_X11_182 pk_n rfl (m_X11_mixed l G _ _ ) rfl rfl (Nat.le_of_ble_eq_true rfl) (by decide) ⟨rfl, rfl, rfl⟩ (dk dd_X11_fingerprint_0 23 rfl) sk1 sm_n ?_
              refine V_lstore_n h (dk dd_X11_fingerprint_0 24 rfl) rfl (Nat.le_of_ble_eq_true rfl) rfl set1 set2 ?_
              refine V_iinc h (dk dd_X11_fingerprint_0 25 rfl) get4 (Nat.le_of_ble_eq_true rfl) rfl set4 ?_
              refine V_goto (tgt := 25) h (dk dd_X11_fingerprint_0 26 rfl) rfl ?_
              exact ih25 _ _ ⟨by omega, by omega, by rw [show i * 4 + (j + 1) = i * 4 + j + 1 by omega, fold_s (by omega), ← hI25.2.2, hnf]⟩ (by omega)
        exact L25 _ _ 0 ⟨by omega, by omega, by rw [Int.add_zero]; exact he⟩ (Nat.lt_succ_self _)
  exact L14 _ _ 0 ⟨by omega, by omega, rfl⟩ (Nat.lt_succ_self _)

