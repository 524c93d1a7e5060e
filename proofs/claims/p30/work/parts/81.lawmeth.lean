/-! the law's own methods: fails, chords, hits, heard -/
/-- what the law's loop over the hits keeps -/
def HL (Nn : Int → Int) (p0 m nh i last sum seen a b : Int) : Prop := (0 ≤ i ∧ i ≤ nh) ∧ (last = lastT Nn i ∧ 0 ≤ last ∧ last ≤ 1202000000) ∧ (sum = sumE Nn i.toNat ∧ 0 ≤ sum ∧ sum ≤ 1000000 * i) ∧ (1 ≤ seen ∧ seen ≤ m) ∧ a = (ch0 Nn p0 i.toNat).1 ∧ b = (ch0 Nn p0 i.toNat).2 ∧ (0 ≤ a ∧ a < 27720) ∧ 0 ≤ b ∧ b ≤ 1202000000
theorem hl_0 {Nn : Int → Int} {p0 m nh : Int} (hn : 0 ≤ nh) (hm : 1 ≤ m) (hp : 0 ≤ p0 ∧ p0 < 27720) : HL Nn p0 m nh 0 0 0 1 p0 0 :=
  ⟨⟨Int.le_refl _, hn⟩, ⟨rfl, Int.le_refl _, by decide⟩, ⟨rfl, Int.le_refl _, by decide⟩, ⟨Int.le_refl _, hm⟩, rfl, rfl, hp, Int.le_refl _, by decide⟩
theorem hl_s {Nn : Int → Int} {p0 m nh e0 s0 i last sum seen seen' a b : Int} (h : HL Nn p0 m nh i last sum seen a b) (hi : i < nh) (hk : HitOK Nn m e0 p0 s0 i) (he : e0 ≤ 1000000) (hs : 1 ≤ seen' ∧ seen' ≤ m) :
    HL Nn p0 m nh (i + 1) (Nn (i * 5 + 2)) (sum + Nn (i * 5 + 3)) seen' (if Nn (i * 5) = 0 then Nn (i * 5 + 1) else a) (if Nn (i * 5) = 0 then Nn (i * 5 + 2) else b) := by
  obtain ⟨⟨h1, h2⟩, h3, ⟨h4, h5, h6⟩, h7, h8, h9, h10, h11⟩ := h
  obtain ⟨k1, k2, k3, k4, k5, k6, k7, k8⟩ := hk
  have hch := chord_nn k5
  refine ⟨⟨by omega, by omega⟩, ⟨?_, by omega, by omega⟩, ⟨?_, by omega, by omega⟩, hs, ?_, ?_, ?_, ?_⟩
  · unfold lastT
    rw [if_neg (by omega), show i + 1 - 1 = i by omega]
  · rw [sumE_s h1, h4]
  · rw [ch0_s h1]
    split
    · rfl
    · exact h8
  · rw [ch0_s h1]
    split
    · rfl
    · exact h9
  · split
    · exact k2
    · exact h10
  · split
    · omega
    · exact h11
theorem sumA_le {A : Int → Int} (h : ∀ p, 0 ≤ p → p < 12 → 0 ≤ A (p * 4)) (k : Nat) : ∀ d : Nat, ((k + d : Nat) : Int) ≤ 12 → sumA A k ≤ sumA A (k + d)
  | 0, _ => Int.le_refl _
  | d + 1, hd => by
    have e := sumA_le h k d (by omega)
    have q := h ((k + d : Nat) : Int) (by omega) (by omega)
    show _ ≤ sumA A ((k + d) + 1)
    rw [sumA]
    omega

set_option maxHeartbeats 4000000 in
set_option maxRecDepth 100000 in
theorem m_L_fails (l : Launch) (G : GT) (x w hi tx sh pw aw sa sg fd fa rr lo mk ea pt lb lc mb eb pb : Nat) (wa pa aa : Nat → Nat) (N L T : Nat → Int) (F : Nat → Int → Int) (c n lo2 z ln a b o fc m nh ec es cm pc : Int) (f ch g Nn Ec A wd Cn : Int → Int) (hn : 0 ≤ n ∧ n ≤ 12) (hc : 0 ≤ c ∧ c ≤ 5) (hlo : R32 lo2) (hz : R32 z) (hfR : ∀ j, 0 ≤ j → j < n * 4 → R32 (f j)) (hC : ChOK ch ln) (hh : 0 ≤ nh ∧ nh ≤ 600) (hm : R32 m) (hcm : R32 cm) (hec : 0 ≤ ec ∧ ec ≤ 600) : Ctr l G yL_fails cL_fails 4 (Option.some FieldType.boolean) (rmO 7 0 0 171) [.ref x] [(x, .inr (10, [.ref w, .ref hi, .ref tx, .ref sh])), (w, .inr (9, [.ref pw, .int (iZ lo2), .int (iZ z)])), (pw, .inr (3, [.ref aw, .int (iZ n)])), (aw, .inl (G.2 0, 48, .inl (iF f))), (hi, .inr (1, [.ref sa, .int (iZ c)])), (sa, .inl (G.2 5, 5, .inr (.inr (.inr (.inr (arr5 wa)))))), ((wa 0), .inr (9, [.ref (pa 0), .int (iZ (L 0)), .int (iZ (T 0))])), ((pa 0), .inr (3, [.ref (aa 0), .int (iZ (N 0))])), ((aa 0), .inl (G.2 0, 48, .inl (iF (F 0)))), ((wa 1), .inr (9, [.ref (pa 1), .int (iZ (L 1)), .int (iZ (T 1))])), ((pa 1), .inr (3, [.ref (aa 1), .int (iZ (N 1))])), ((aa 1), .inl (G.2 0, 48, .inl (iF (F 1)))), ((wa 2), .inr (9, [.ref (pa 2), .int (iZ (L 2)), .int (iZ (T 2))])), ((pa 2), .inr (3, [.ref (aa 2), .int (iZ (N 2))])), ((aa 2), .inl (G.2 0, 48, .inl (iF (F 2)))), ((wa 3), .inr (9, [.ref (pa 3), .int (iZ (L 3)), .int (iZ (T 3))])), ((pa 3), .inr (3, [.ref (aa 3), .int (iZ (N 3))])), ((aa 3), .inl (G.2 0, 48, .inl (iF (F 3)))), ((wa 4), .inr (9, [.ref (pa 4), .int (iZ (L 4)), .int (iZ (T 4))])), ((pa 4), .inr (3, [.ref (aa 4), .int (iZ (N 4))])), ((aa 4), .inl (G.2 0, 48, .inl (iF (F 4)))), (tx, .inr (8, [.ref sg, .ref fd, .int (iZ ln), .int (iZ a), .int (iZ b), .int (iZ o)])), (sg, .inl (G.2 3, 60, .inl (iF ch))), (fd, .inr (3, [.ref fa, .int (iZ fc)])), (fa, .inl (G.2 0, 48, .inl (iF g))), (sh, .inr (7, [.ref rr, .ref lo, .ref mk, .ref ea, .ref pt, .int (iZ m)])), (lo, .inr (2, [.ref lb, .ref lc, .int (iZ nh), .int (iZ ec), .long (lZ es)])), (lb, .inl (G.2 1, 3000, .inr (.inl (lF Nn)))), (lc, .inl (G.2 0, 600, .inl (iF Ec))), (mk, .inr (5, [.ref mb, .int (iZ cm)])), (mb, .inl (G.2 1, 434, .inr (.inl (lF wd)))), (ea, .inr (0, [.ref eb])), (eb, .inl (G.2 1, 48, .inr (.inl (lF A)))), (pt, .inr (4, [.ref pb, .int (iZ pc)])), (pb, .inl (G.2 0, 201, .inl (iF Cn)))] (Det (some (.int (iZ 1))) [(x, .inr (10, [.ref w, .ref hi, .ref tx, .ref sh])), (w, .inr (9, [.ref pw, .int (iZ lo2), .int (iZ z)])), (pw, .inr (3, [.ref aw, .int (iZ n)])), (aw, .inl (G.2 0, 48, .inl (iF f))), (hi, .inr (1, [.ref sa, .int (iZ c)])), (sa, .inl (G.2 5, 5, .inr (.inr (.inr (.inr (arr5 wa)))))), ((wa 0), .inr (9, [.ref (pa 0), .int (iZ (L 0)), .int (iZ (T 0))])), ((pa 0), .inr (3, [.ref (aa 0), .int (iZ (N 0))])), ((aa 0), .inl (G.2 0, 48, .inl (iF (F 0)))), ((wa 1), .inr (9, [.ref (pa 1), .int (iZ (L 1)), .int (iZ (T 1))])), ((pa 1), .inr (3, [.ref (aa 1), .int (iZ (N 1))])), ((aa 1), .inl (G.2 0, 48, .inl (iF (F 1)))), ((wa 2), .inr (9, [.ref (pa 2), .int (iZ (L 2)), .int (iZ (T 2))])), ((pa 2), .inr (3, [.ref (aa 2), .int (iZ (N 2))])), ((aa 2), .inl (G.2 0, 48, .inl (iF (F 2)))), ((wa 3), .inr (9, [.ref (pa 3), .int (iZ (L 3)), .int (iZ (T 3))])), ((pa 3), .inr (3, [.ref (aa 3), .int (iZ (N 3))])), ((aa 3), .inl (G.2 0, 48, .inl (iF (F 3)))), ((wa 4), .inr (9, [.ref (pa 4), .int (iZ (L 4)), .int (iZ (T 4))])), ((pa 4), .inr (3, [.ref (aa 4), .int (iZ (N 4))])), ((aa 4), .inl (G.2 0, 48, .inl (iF (F 4)))), (tx, .inr (8, [.ref sg, .ref fd, .int (iZ ln), .int (iZ a), .int (iZ b), .int (iZ o)])), (sg, .inl (G.2 3, 60, .inl (iF ch))), (fd, .inr (3, [.ref fa, .int (iZ fc)])), (fa, .inl (G.2 0, 48, .inl (iF g))), (sh, .inr (7, [.ref rr, .ref lo, .ref mk, .ref ea, .ref pt, .int (iZ m)])), (lo, .inr (2, [.ref lb, .ref lc, .int (iZ nh), .int (iZ ec), .long (lZ es)])), (lb, .inl (G.2 1, 3000, .inr (.inl (lF Nn)))), (lc, .inl (G.2 0, 600, .inl (iF Ec))), (mk, .inr (5, [.ref mb, .int (iZ cm)])), (mb, .inl (G.2 1, 434, .inr (.inl (lF wd)))), (ea, .inr (0, [.ref eb])), (eb, .inl (G.2 1, 48, .inr (.inl (lF A)))), (pt, .inr (4, [.ref pb, .int (iZ pc)])), (pb, .inl (G.2 0, 201, .inl (iF Cn)))]) := by
  refine Ctr.go (own := RL) (nm := "fails") (by decide +kernel) rfl rfl [some (.ref x), none, none, none] 3 rfl rfl (Nat.le_of_ble_eq_true rfl) ?_
  intro K h hF
  refine V_aload_n h (dk dd_L_fails_0 0 rfl) rfl get0 ?_
  refine V_callV h st1 ci_L_9 (pk_c get0 (pk_c get1 (pk_c get2 (pk_c get3 (pk_c get25 (pk_c get26 (pk_c get27 (pk_c get28 (pk_c get29 (pk_c get30 (pk_c get31 (pk_c get32 pk_n)))))))))))) rfl 0 get0 rfl (m_X11_fingerprint l G _ _ _ _ _ _ _ _ _ _ _ _ _ _ _ _ _ _ _ _ _ _ _ _ _ _ _ _ _ (by omega) (hfR) (by omega) (by omega) (by omega) (by omega) (by omega)) rfl rfl (Nat.le_of_ble_eq_true rfl) (by decide) ⟨rfl, rfl, rfl⟩ (dk dd_L_fails_0 1 rfl) sk1 (sm_c set0 (sm_c set1 (sm_c set2 (sm_c set3 (sm_c set25 (sm_c set26 (sm_c set27 (sm_c set28 (sm_c set29 (sm_c set30 (sm_c set31 (sm_c set32 sm_n)))))))))))) ?_
  refine V_lstore_n h (dk dd_L_fails_0 2 rfl) rfl (Nat.le_of_ble_eq_true rfl) rfl set1 set2 ?_
  refine V_aload_n h (dk dd_L_fails_0 3 rfl) rfl get0 ?_
  refine V_iconst h (dk dd_L_fails_0 4 rfl) ?_
  refine V_iconst h (dk dd_L_fails_0 5 rfl) ?_
  refine V_iconst h (dk dd_L_fails_0 6 rfl) ?_
  refine V_iconst h (dk dd_L_fails_0 7 rfl) ?_
  refine V_callV h st5 ci_L_15 (pk_c get0 (pk_c get1 (pk_c get2 (pk_c get3 (pk_c get4 (pk_c get5 (pk_c get6 (pk_c get7 (pk_c get8 (pk_c get9 (pk_c get10 (pk_c get11 (pk_c get12 (pk_c get13 (pk_c get14 (pk_c get15 (pk_c get16 (pk_c get17 (pk_c get18 (pk_c get19 (pk_c get20 pk_n))))))))))))))))))))) rfl 0 get0 rfl (m_add_bad l G _ _ _ _ _ _ _ _ _ _ _ _ _ _ _ _ _ _ _ _ _ _ _ _ (by omega) (by omega) (by omega) (by omega) (by omega) (by omega) (by decide)) rfl rfl (Nat.le_of_ble_eq_true rfl) (by decide) ⟨rfl, rfl, rfl⟩ (dk dd_L_fails_0 8 rfl) sk1 (sm_c set0 (sm_c set1 (sm_c set2 (sm_c set3 (sm_c set4 (sm_c set5 (sm_c set6 (sm_c set7 (sm_c set8 (sm_c set9 (sm_c set10 (sm_c set11 (sm_c set12 (sm_c set13 (sm_c set14 (sm_c set15 (sm_c set16 (sm_c set17 (sm_c set18 (sm_c set19 (sm_c set20 sm_n))))))))))))))))))))) ?_
  refine V_ldc h q3_67 (dk dd_L_fails_0 9 rfl) ?_
  refine V_icmp_ne (tgt := 161) h (dk dd_L_fails_0 10 rfl) rfl (by omega) (fun c15 => ?_) (fun c15 => ?_)
  · exfalso; omega
  · refine V_aload_n h (dk dd_L_fails_0 11 rfl) rfl get0 ?_
    refine V_iconst h (dk dd_L_fails_0 12 rfl) ?_
    refine V_sipush h (dk dd_L_fails_0 13 rfl) (by decide) ?_
    refine V_iconst h (dk dd_L_fails_0 14 rfl) ?_
    refine V_iconst h (dk dd_L_fails_0 15 rfl) ?_
    refine V_callV h st5 ci_L_15 (pk_c get0 (pk_c get1 (pk_c get2 (pk_c get3 (pk_c get4 (pk_c get5 (pk_c get6 (pk_c get7 (pk_c get8 (pk_c get9 (pk_c get10 (pk_c get11 (pk_c get12 (pk_c get13 (pk_c get14 (pk_c get15 (pk_c get16 (pk_c get17 (pk_c get18 (pk_c get19 (pk_c get20 pk_n))))))))))))))))))))) rfl 0 get0 rfl (m_add_bad l G _ _ _ _ _ _ _ _ _ _ _ _ _ _ _ _ _ _ _ _ _ _ _ _ (by omega) (by omega) (by omega) (by omega) (by omega) (by omega) (by decide)) rfl rfl (Nat.le_of_ble_eq_true rfl) (by decide) ⟨rfl, rfl, rfl⟩ (dk dd_L_fails_0 16 rfl) sk1 (sm_c set0 (sm_c set1 (sm_c set2 (sm_c set3 (sm_c set4 (sm_c set5 (sm_c set6 (sm_c set7 (sm_c set8 (sm_c set9 (sm_c set10 (sm_c set11 (sm_c set12 (sm_c set13 (sm_c set14 (sm_c set15 (sm_c set16 (sm_c set17 (sm_c set18 (sm_c set19 (sm_c set20 sm_n))))))))))))))))))))) ?_
    refine V_ldc h q3_67 (dk dd_L_fails_0 17 rfl) ?_
    refine V_icmp_ne (tgt := 161) h (dk dd_L_fails_0 18 rfl) rfl (by omega) (fun c30 => ?_) (fun c30 => ?_)
    · exfalso; omega
    · refine V_aload_n h (dk dd_L_fails_0 19 rfl) rfl get0 ?_
      refine V_iconst h (dk dd_L_fails_0 20 rfl) ?_
      refine V_iconst h (dk dd_L_fails_0 21 rfl) ?_
      refine V_iconst h (dk dd_L_fails_0 22 rfl) ?_
      refine V_iconst h (dk dd_L_fails_0 23 rfl) ?_
      refine V_callV h st5 ci_L_15 (pk_c get0 (pk_c get1 (pk_c get2 (pk_c get3 (pk_c get4 (pk_c get5 (pk_c get6 (pk_c get7 (pk_c get8 (pk_c get9 (pk_c get10 (pk_c get11 (pk_c get12 (pk_c get13 (pk_c get14 (pk_c get15 (pk_c get16 (pk_c get17 (pk_c get18 (pk_c get19 (pk_c get20 pk_n))))))))))))))))))))) rfl 0 get0 rfl (m_add_bad l G _ _ _ _ _ _ _ _ _ _ _ _ _ _ _ _ _ _ _ _ _ _ _ _ (by omega) (by omega) (by omega) (by omega) (by omega) (by omega) (by decide)) rfl rfl (Nat.le_of_ble_eq_true rfl) (by decide) ⟨rfl, rfl, rfl⟩ (dk dd_L_fails_0 24 rfl) sk1 (sm_c set0 (sm_c set1 (sm_c set2 (sm_c set3 (sm_c set4 (sm_c set5 (sm_c set6 (sm_c set7 (sm_c set8 (sm_c set9 (sm_c set10 (sm_c set11 (sm_c set12 (sm_c set13 (sm_c set14 (sm_c set15 (sm_c set16 (sm_c set17 (sm_c set18 (sm_c set19 (sm_c set20 sm_n))))))))))))))))))))) ?_
      refine V_ldc h q3_67 (dk dd_L_fails_0 25 rfl) ?_
      refine V_icmp_ne (tgt := 161) h (dk dd_L_fails_0 26 rfl) rfl (by omega) (fun c43 => ?_) (fun c43 => ?_)
      · exfalso; omega
      · refine V_aload_n h (dk dd_L_fails_0 27 rfl) rfl get0 ?_
        refine V_iconst h (dk dd_L_fails_0 28 rfl) ?_
        refine V_iconst h (dk dd_L_fails_0 29 rfl) ?_
        refine V_sipush h (dk dd_L_fails_0 30 rfl) (by decide) ?_
        refine V_iconst h (dk dd_L_fails_0 31 rfl) ?_
        refine V_callV h st5 ci_L_15 (pk_c get0 (pk_c get1 (pk_c get2 (pk_c get3 (pk_c get4 (pk_c get5 (pk_c get6 (pk_c get7 (pk_c get8 (pk_c get9 (pk_c get10 (pk_c get11 (pk_c get12 (pk_c get13 (pk_c get14 (pk_c get15 (pk_c get16 (pk_c get17 (pk_c get18 (pk_c get19 (pk_c get20 pk_n))))))))))))))))))))) rfl 0 get0 rfl (m_add_bad l G _ _ _ _ _ _ _ _ _ _ _ _ _ _ _ _ _ _ _ _ _ _ _ _ (by omega) (by omega) (by omega) (by omega) (by omega) (by omega) (by decide)) rfl rfl (Nat.le_of_ble_eq_true rfl) (by decide) ⟨rfl, rfl, rfl⟩ (dk dd_L_fails_0 32 rfl) sk1 (sm_c set0 (sm_c set1 (sm_c set2 (sm_c set3 (sm_c set4 (sm_c set5 (sm_c set6 (sm_c set7 (sm_c set8 (sm_c set9 (sm_c set10 (sm_c set11 (sm_c set12 (sm_c set13 (sm_c set14 (sm_c set15 (sm_c set16 (sm_c set17 (sm_c set18 (sm_c set19 (sm_c set20 sm_n))))))))))))))))))))) ?_
        refine V_ldc h q3_67 (dk dd_L_fails_0 33 rfl) ?_
        refine V_icmp_ne (tgt := 161) h (dk dd_L_fails_0 34 rfl) rfl (by omega) (fun c58 => ?_) (fun c58 => ?_)
        · exfalso; omega
        · refine V_aload_n h (dk dd_L_fails_0 35 rfl) rfl get0 ?_
          refine V_iconst h (dk dd_L_fails_0 36 rfl) ?_
          refine V_iconst h (dk dd_L_fails_0 37 rfl) ?_
          refine V_iconst h (dk dd_L_fails_0 38 rfl) ?_
          refine V_sipush h (dk dd_L_fails_0 39 rfl) (by decide) ?_
          refine V_callV h st5 ci_L_15 (pk_c get0 (pk_c get1 (pk_c get2 (pk_c get3 (pk_c get4 (pk_c get5 (pk_c get6 (pk_c get7 (pk_c get8 (pk_c get9 (pk_c get10 (pk_c get11 (pk_c get12 (pk_c get13 (pk_c get14 (pk_c get15 (pk_c get16 (pk_c get17 (pk_c get18 (pk_c get19 (pk_c get20 pk_n))))))))))))))))))))) rfl 0 get0 rfl (m_add_bad l G _ _ _ _ _ _ _ _ _ _ _ _ _ _ _ _ _ _ _ _ _ _ _ _ (by omega) (by omega) (by omega) (by omega) (by omega) (by omega) (by decide)) rfl rfl (Nat.le_of_ble_eq_true rfl) (by decide) ⟨rfl, rfl, rfl⟩ (dk dd_L_fails_0 40 rfl) sk1 (sm_c set0 (sm_c set1 (sm_c set2 (sm_c set3 (sm_c set4 (sm_c set5 (sm_c set6 (sm_c set7 (sm_c set8 (sm_c set9 (sm_c set10 (sm_c set11 (sm_c set12 (sm_c set13 (sm_c set14 (sm_c set15 (sm_c set16 (sm_c set17 (sm_c set18 (sm_c set19 (sm_c set20 sm_n))))))))))))))))))))) ?_
          refine V_ldc h q3_67 (dk dd_L_fails_0 41 rfl) ?_
          refine V_icmp_ne (tgt := 161) h (dk dd_L_fails_0 42 rfl) rfl (by omega) (fun c73 => ?_) (fun c73 => ?_)
          · exfalso; omega
          · refine V_aload_n h (dk dd_L_fails_0 43 rfl) rfl get0 ?_
            refine V_iconst h (dk dd_L_fails_0 44 rfl) ?_
            refine V_iconst h (dk dd_L_fails_0 45 rfl) ?_
            refine V_iconst h (dk dd_L_fails_0 46 rfl) ?_
            refine V_iconst h (dk dd_L_fails_0 47 rfl) ?_
            refine V_callV h st5 ci_L_15 (pk_c get0 (pk_c get1 (pk_c get2 (pk_c get3 (pk_c get4 (pk_c get5 (pk_c get6 (pk_c get7 (pk_c get8 (pk_c get9 (pk_c get10 (pk_c get11 (pk_c get12 (pk_c get13 (pk_c get14 (pk_c get15 (pk_c get16 (pk_c get17 (pk_c get18 (pk_c get19 (pk_c get20 pk_n))))))))))))))))))))) rfl 0 get0 rfl (m_add_bad l G _ _ _ _ _ _ _ _ _ _ _ _ _ _ _ _ _ _ _ _ _ _ _ _ (by omega) (by omega) (by omega) (by omega) (by omega) (by omega) (by decide)) rfl rfl (Nat.le_of_ble_eq_true rfl) (by decide) ⟨rfl, rfl, rfl⟩ (dk dd_L_fails_0 48 rfl) sk1 (sm_c set0 (sm_c set1 (sm_c set2 (sm_c set3 (sm_c set4 (sm_c set5 (sm_c set6 (sm_c set7 (sm_c set8 (sm_c set9 (sm_c set10 (sm_c set11 (sm_c set12 (sm_c set13 (sm_c set14 (sm_c set15 (sm_c set16 (sm_c set17 (sm_c set18 (sm_c set19 (sm_c set20 sm_n))))))))))))))))))))) ?_
            refine V_ldc h q3_67 (dk dd_L_fails_0 49 rfl) ?_
            refine V_icmp_ne (tgt := 161) h (dk dd_L_fails_1 0 rfl) rfl (by omega) (fun c86 => ?_) (fun c86 => ?_)
            · exfalso; omega
            · refine V_aload_n h (dk dd_L_fails_1 1 rfl) rfl get0 ?_
              refine V_iconst h (dk dd_L_fails_1 2 rfl) ?_
              refine V_iconst h (dk dd_L_fails_1 3 rfl) ?_
              refine V_iconst h (dk dd_L_fails_1 4 rfl) ?_
              refine V_iconst h (dk dd_L_fails_1 5 rfl) ?_
              refine V_callV h st5 ci_L_15 (pk_c get0 (pk_c get1 (pk_c get2 (pk_c get3 (pk_c get4 (pk_c get5 (pk_c get6 (pk_c get7 (pk_c get8 (pk_c get9 (pk_c get10 (pk_c get11 (pk_c get12 (pk_c get13 (pk_c get14 (pk_c get15 (pk_c get16 (pk_c get17 (pk_c get18 (pk_c get19 (pk_c get20 pk_n))))))))))))))))))))) rfl 0 get0 rfl (m_add_bad l G _ _ _ _ _ _ _ _ _ _ _ _ _ _ _ _ _ _ _ _ _ _ _ _ (by omega) (by omega) (by omega) (by omega) (by omega) (by omega) (by decide)) rfl rfl (Nat.le_of_ble_eq_true rfl) (by decide) ⟨rfl, rfl, rfl⟩ (dk dd_L_fails_1 6 rfl) sk1 (sm_c set0 (sm_c set1 (sm_c set2 (sm_c set3 (sm_c set4 (sm_c set5 (sm_c set6 (sm_c set7 (sm_c set8 (sm_c set9 (sm_c set10 (sm_c set11 (sm_c set12 (sm_c set13 (sm_c set14 (sm_c set15 (sm_c set16 (sm_c set17 (sm_c set18 (sm_c set19 (sm_c set20 sm_n))))))))))))))))))))) ?_
              refine V_ldc h q3_67 (dk dd_L_fails_1 7 rfl) ?_
              refine V_icmp_ne (tgt := 161) h (dk dd_L_fails_1 8 rfl) rfl (by omega) (fun c99 => ?_) (fun c99 => ?_)
              · exfalso; omega
              · refine V_aload_n h (dk dd_L_fails_1 9 rfl) rfl get0 ?_
                refine V_iconst h (dk dd_L_fails_1 10 rfl) ?_
                refine V_iconst h (dk dd_L_fails_1 11 rfl) ?_
                refine V_iconst h (dk dd_L_fails_1 12 rfl) ?_
                refine V_sipush h (dk dd_L_fails_1 13 rfl) (by decide) ?_
                refine V_callV h st5 ci_L_15 (pk_c get0 (pk_c get1 (pk_c get2 (pk_c get3 (pk_c get4 (pk_c get5 (pk_c get6 (pk_c get7 (pk_c get8 (pk_c get9 (pk_c get10 (pk_c get11 (pk_c get12 (pk_c get13 (pk_c get14 (pk_c get15 (pk_c get16 (pk_c get17 (pk_c get18 (pk_c get19 (pk_c get20 pk_n))))))))))))))))))))) rfl 0 get0 rfl (m_add_bad l G _ _ _ _ _ _ _ _ _ _ _ _ _ _ _ _ _ _ _ _ _ _ _ _ (by omega) (by omega) (by omega) (by omega) (by omega) (by omega) (by decide)) rfl rfl (Nat.le_of_ble_eq_true rfl) (by decide) ⟨rfl, rfl, rfl⟩ (dk dd_L_fails_1 14 rfl) sk1 (sm_c set0 (sm_c set1 (sm_c set2 (sm_c set3 (sm_c set4 (sm_c set5 (sm_c set6 (sm_c set7 (sm_c set8 (sm_c set9 (sm_c set10 (sm_c set11 (sm_c set12 (sm_c set13 (sm_c set14 (sm_c set15 (sm_c set16 (sm_c set17 (sm_c set18 (sm_c set19 (sm_c set20 sm_n))))))))))))))))))))) ?_
                refine V_ldc h q3_67 (dk dd_L_fails_1 15 rfl) ?_
                refine V_icmp_ne (tgt := 161) h (dk dd_L_fails_1 16 rfl) rfl (by omega) (fun c114 => ?_) (fun c114 => ?_)
                · exfalso; omega
                · refine V_aload_n h (dk dd_L_fails_1 17 rfl) rfl get0 ?_
                  refine V_iconst h (dk dd_L_fails_1 18 rfl) ?_
                  refine V_iconst h (dk dd_L_fails_1 19 rfl) ?_
                  refine V_iconst h (dk dd_L_fails_1 20 rfl) ?_
                  refine V_iconst h (dk dd_L_fails_1 21 rfl) ?_
                  refine V_callV h st5 ci_L_15 (pk_c get0 (pk_c get1 (pk_c get2 (pk_c get3 (pk_c get4 (pk_c get5 (pk_c get6 (pk_c get7 (pk_c get8 (pk_c get9 (pk_c get10 (pk_c get11 (pk_c get12 (pk_c get13 (pk_c get14 (pk_c get15 (pk_c get16 (pk_c get17 (pk_c get18 (pk_c get19 (pk_c get20 pk_n))))))))))))))))))))) rfl 0 get0 rfl (m_add_bad l G _ _ _ _ _ _ _ _ _ _ _ _ _ _ _ _ _ _ _ _ _ _ _ _ (by omega) (by omega) (by omega) (by omega) (by omega) (by omega) (by decide)) rfl rfl (Nat.le_of_ble_eq_true rfl) (by decide) ⟨rfl, rfl, rfl⟩ (dk dd_L_fails_1 22 rfl) sk1 (sm_c set0 (sm_c set1 (sm_c set2 (sm_c set3 (sm_c set4 (sm_c set5 (sm_c set6 (sm_c set7 (sm_c set8 (sm_c set9 (sm_c set10 (sm_c set11 (sm_c set12 (sm_c set13 (sm_c set14 (sm_c set15 (sm_c set16 (sm_c set17 (sm_c set18 (sm_c set19 (sm_c set20 sm_n))))))))))))))))))))) ?_
                  refine V_ldc h q3_67 (dk dd_L_fails_1 23 rfl) ?_
                  refine V_icmp_ne (tgt := 161) h (dk dd_L_fails_1 24 rfl) rfl (by omega) (fun c127 => ?_) (fun c127 => ?_)
                  · exfalso; omega
                  · refine V_aload_n h (dk dd_L_fails_1 25 rfl) rfl get0 ?_
                    refine V_aload_n h (dk dd_L_fails_1 26 rfl) rfl get0 ?_
                    refine V_callV h st1 ci_L_22 (pk_c get0 (pk_c get1 (pk_c get2 (pk_c get3 pk_n)))) rfl 0 get0 rfl (m_X11_parts l G _ _ _ _ _ _ _ _ _ _ _ ) rfl rfl (Nat.le_of_ble_eq_true rfl) (by decide) ⟨rfl, rfl, rfl⟩ (dk dd_L_fails_1 27 rfl) sk1 (sm_c set0 (sm_c set1 (sm_c set2 (sm_c set3 sm_n)))) ?_
                    refine V_callV h st2 ci_L_26 (pk_c get0 (pk_c get1 (pk_c get2 (pk_c get3 (pk_c get4 (pk_c get5 (pk_c get6 (pk_c get7 (pk_c get8 (pk_c get9 (pk_c get10 (pk_c get11 (pk_c get12 (pk_c get13 (pk_c get14 (pk_c get15 (pk_c get16 (pk_c get17 (pk_c get18 (pk_c get19 (pk_c get20 pk_n))))))))))))))))))))) rfl 0 get0 rfl (m_remove_bad l G _ _ _ _ _ _ _ _ _ _ _ _ _ _ _ _ _ _ _ _ _ (by omega) (by omega) (by omega) (by omega)) rfl rfl (Nat.le_of_ble_eq_true rfl) (by decide) ⟨rfl, rfl, rfl⟩ (dk dd_L_fails_1 28 rfl) sk1 (sm_c set0 (sm_c set1 (sm_c set2 (sm_c set3 (sm_c set4 (sm_c set5 (sm_c set6 (sm_c set7 (sm_c set8 (sm_c set9 (sm_c set10 (sm_c set11 (sm_c set12 (sm_c set13 (sm_c set14 (sm_c set15 (sm_c set16 (sm_c set17 (sm_c set18 (sm_c set19 (sm_c set20 sm_n))))))))))))))))))))) ?_
                    refine V_ldc h q3_67 (dk dd_L_fails_1 29 rfl) ?_
                    refine V_icmp_ne (tgt := 161) h (dk dd_L_fails_1 30 rfl) rfl (by omega) (fun c140 => ?_) (fun c140 => ?_)
                    · exfalso; omega
                    · refine V_aload_n h (dk dd_L_fails_1 31 rfl) rfl get0 ?_
                      refine V_aload_n h (dk dd_L_fails_1 32 rfl) rfl get0 ?_
                      refine V_callV h st1 ci_L_22 (pk_c get0 (pk_c get1 (pk_c get2 (pk_c get3 pk_n)))) rfl 0 get0 rfl (m_X11_parts l G _ _ _ _ _ _ _ _ _ _ _ ) rfl rfl (Nat.le_of_ble_eq_true rfl) (by decide) ⟨rfl, rfl, rfl⟩ (dk dd_L_fails_1 33 rfl) sk1 (sm_c set0 (sm_c set1 (sm_c set2 (sm_c set3 sm_n)))) ?_
                      refine V_iconst h (dk dd_L_fails_1 34 rfl) ?_
                      refine V_callV h st3 ci_L_30 (pk_c get0 (pk_c get1 (pk_c get2 (pk_c get3 pk_n)))) rfl 0 get0 rfl (m_part_bad l G _ _ _ _ _ _ _ _ _ _ _ _ _ (by omega) (by omega) (by omega) (by omega)) rfl rfl (Nat.le_of_ble_eq_true rfl) (by decide) ⟨rfl, rfl, rfl⟩ (dk dd_L_fails_1 35 rfl) sk1 (sm_c set0 (sm_c set1 (sm_c set2 (sm_c set3 sm_n)))) ?_
                      refine V_ldc h q3_67 (dk dd_L_fails_1 36 rfl) ?_
                      refine V_icmp_ne (tgt := 161) h (dk dd_L_fails_1 37 rfl) rfl (by omega) (fun c154 => ?_) (fun c154 => ?_)
                      · exfalso; omega
                      · refine V_iconst h (dk dd_L_fails_1 38 rfl) ?_
                        refine V_goto (tgt := 162) h (dk dd_L_fails_1 39 rfl) rfl ?_
                        refine V_istore_n h (dk dd_L_fails_1 41 rfl) rfl (Nat.le_of_ble_eq_true rfl) rfl set3 ?_
                        refine V_iload_n h (dk dd_L_fails_1 42 rfl) rfl get3 ?_
                        refine V_if_eq (tgt := 334) h (dk dd_L_fails_1 43 rfl) rfl (by omega) (fun c164 => ?_) (fun c164 => ?_)
                        · exfalso; omega
                        · refine V_aload_n h (dk dd_L_fails_1 44 rfl) rfl get0 ?_
                          refine V_iconst h (dk dd_L_fails_1 45 rfl) ?_
                          refine V_iconst h (dk dd_L_fails_1 46 rfl) ?_
                          refine V_callV h st3 ci_L_30 (pk_c get0 (pk_c get1 (pk_c get2 (pk_c get3 pk_n)))) rfl 0 get0 rfl (m_part_bad l G _ _ _ _ _ _ _ _ _ _ _ _ _ (by omega) (by omega) (by omega) (by omega)) rfl rfl (Nat.le_of_ble_eq_true rfl) (by decide) ⟨rfl, rfl, rfl⟩ (dk dd_L_fails_1 47 rfl) sk1 (sm_c set0 (sm_c set1 (sm_c set2 (sm_c set3 sm_n)))) ?_
                          refine V_ldc h q3_67 (dk dd_L_fails_1 48 rfl) ?_
                          refine V_icmp_ne (tgt := 334) h (dk dd_L_fails_1 49 rfl) rfl (by omega) (fun c175 => ?_) (fun c175 => ?_)
                          · exfalso; omega
                          · refine V_aload_n h (dk dd_L_fails_2 0 rfl) rfl get0 ?_
                            refine V_sipush h (dk dd_L_fails_2 1 rfl) (by decide) ?_
                            refine V_callV h st2 ci_L_34 (pk_c get0 (pk_c get1 (pk_c get2 (pk_c get3 (pk_c get4 (pk_c get5 (pk_c get6 (pk_c get7 (pk_c get8 (pk_c get9 (pk_c get10 (pk_c get11 (pk_c get12 (pk_c get13 (pk_c get14 (pk_c get15 (pk_c get16 (pk_c get17 (pk_c get18 (pk_c get19 (pk_c get20 pk_n))))))))))))))))))))) rfl 0 get0 rfl (m_setLoss_bad l G _ _ _ _ _ _ _ _ _ _ _ _ _ _ _ _ _ _ _ _ _ (by omega) (by omega) (by omega) (by omega)) rfl rfl (Nat.le_of_ble_eq_true rfl) (by decide) ⟨rfl, rfl, rfl⟩ (dk dd_L_fails_2 2 rfl) sk1 (sm_c set0 (sm_c set1 (sm_c set2 (sm_c set3 (sm_c set4 (sm_c set5 (sm_c set6 (sm_c set7 (sm_c set8 (sm_c set9 (sm_c set10 (sm_c set11 (sm_c set12 (sm_c set13 (sm_c set14 (sm_c set15 (sm_c set16 (sm_c set17 (sm_c set18 (sm_c set19 (sm_c set20 sm_n))))))))))))))))))))) ?_
                            refine V_ldc h q3_67 (dk dd_L_fails_2 3 rfl) ?_
                            refine V_icmp_ne (tgt := 334) h (dk dd_L_fails_2 4 rfl) rfl (by omega) (fun c187 => ?_) (fun c187 => ?_)
                            · exfalso; omega
                            · refine V_aload_n h (dk dd_L_fails_2 5 rfl) rfl get0 ?_
                              refine V_iconst h (dk dd_L_fails_2 6 rfl) ?_
                              refine V_callV h st2 ci_L_37 (pk_c get0 (pk_c get1 (pk_c get2 (pk_c get3 (pk_c get4 (pk_c get5 (pk_c get6 (pk_c get7 (pk_c get8 (pk_c get9 (pk_c get10 (pk_c get11 (pk_c get12 (pk_c get13 (pk_c get14 (pk_c get15 (pk_c get16 (pk_c get17 (pk_c get18 (pk_c get19 (pk_c get20 pk_n))))))))))))))))))))) rfl 0 get0 rfl (m_setThreshold_bad l G _ _ _ _ _ _ _ _ _ _ _ _ _ _ _ _ _ _ _ _ _ (by omega) (by omega) (by omega) (by omega)) rfl rfl (Nat.le_of_ble_eq_true rfl) (by decide) ⟨rfl, rfl, rfl⟩ (dk dd_L_fails_2 7 rfl) sk1 (sm_c set0 (sm_c set1 (sm_c set2 (sm_c set3 (sm_c set4 (sm_c set5 (sm_c set6 (sm_c set7 (sm_c set8 (sm_c set9 (sm_c set10 (sm_c set11 (sm_c set12 (sm_c set13 (sm_c set14 (sm_c set15 (sm_c set16 (sm_c set17 (sm_c set18 (sm_c set19 (sm_c set20 sm_n))))))))))))))))))))) ?_
                              refine V_ldc h q3_67 (dk dd_L_fails_2 8 rfl) ?_
                              refine V_icmp_ne (tgt := 334) h (dk dd_L_fails_2 9 rfl) rfl (by omega) (fun c197 => ?_) (fun c197 => ?_)
                              · exfalso; omega
                              · refine V_aload_n h (dk dd_L_fails_2 10 rfl) rfl get0 ?_
                                refine V_sipush h (dk dd_L_fails_2 11 rfl) (by decide) ?_
                                refine V_iconst h (dk dd_L_fails_2 12 rfl) ?_
                                refine V_iconst h (dk dd_L_fails_2 13 rfl) ?_
                                refine V_callV h st4 ci_L_40 pk_n rfl 0 get0 rfl (m_shoot_bad l G _ 0 0 0 0 _ _ _ (by omega) (by omega) (by omega) (by omega)) rfl rfl (Nat.le_of_ble_eq_true rfl) (by decide) ⟨rfl, rfl, rfl⟩ (dk dd_L_fails_2 14 rfl) sk1 sm_n ?_
                                refine V_ldc h q3_67 (dk dd_L_fails_2 15 rfl) ?_
                                refine V_icmp_ne (tgt := 334) h (dk dd_L_fails_2 16 rfl) rfl (by omega) (fun c211 => ?_) (fun c211 => ?_)
                                · exfalso; omega
                                · refine V_aload_n h (dk dd_L_fails_2 17 rfl) rfl get0 ?_
                                  refine V_iconst h (dk dd_L_fails_2 18 rfl) ?_
                                  refine V_iconst h (dk dd_L_fails_2 19 rfl) ?_
                                  refine V_iconst h (dk dd_L_fails_2 20 rfl) ?_
                                  refine V_callV h st4 ci_L_40 pk_n rfl 0 get0 rfl (m_shoot_bad l G _ 0 0 0 0 _ _ _ (by omega) (by omega) (by omega) (by omega)) rfl rfl (Nat.le_of_ble_eq_true rfl) (by decide) ⟨rfl, rfl, rfl⟩ (dk dd_L_fails_2 21 rfl) sk1 sm_n ?_
                                  refine V_ldc h q3_67 (dk dd_L_fails_2 22 rfl) ?_
                                  refine V_icmp_ne (tgt := 334) h (dk dd_L_fails_2 23 rfl) rfl (by omega) (fun c223 => ?_) (fun c223 => ?_)
                                  · exfalso; omega
                                  · refine V_aload_n h (dk dd_L_fails_2 24 rfl) rfl get0 ?_
                                    refine V_iconst h (dk dd_L_fails_2 25 rfl) ?_
                                    refine V_sipush h (dk dd_L_fails_2 26 rfl) (by decide) ?_
                                    refine V_iconst h (dk dd_L_fails_2 27 rfl) ?_
                                    refine V_callV h st4 ci_L_40 pk_n rfl 0 get0 rfl (m_shoot_bad l G _ 0 0 0 0 _ _ _ (by omega) (by omega) (by omega) (by omega)) rfl rfl (Nat.le_of_ble_eq_true rfl) (by decide) ⟨rfl, rfl, rfl⟩ (dk dd_L_fails_2 28 rfl) sk1 sm_n ?_
                                    refine V_ldc h q3_67 (dk dd_L_fails_2 29 rfl) ?_
                                    refine V_icmp_ne (tgt := 334) h (dk dd_L_fails_2 30 rfl) rfl (by omega) (fun c237 => ?_) (fun c237 => ?_)
                                    · exfalso; omega
                                    · refine V_aload_n h (dk dd_L_fails_2 31 rfl) rfl get0 ?_
                                      refine V_iconst h (dk dd_L_fails_2 32 rfl) ?_
                                      refine V_iconst h (dk dd_L_fails_2 33 rfl) ?_
                                      refine V_iconst h (dk dd_L_fails_2 34 rfl) ?_
                                      refine V_callV h st4 ci_L_40 pk_n rfl 0 get0 rfl (m_shoot_bad l G _ 0 0 0 0 _ _ _ (by omega) (by omega) (by omega) (by omega)) rfl rfl (Nat.le_of_ble_eq_true rfl) (by decide) ⟨rfl, rfl, rfl⟩ (dk dd_L_fails_2 35 rfl) sk1 sm_n ?_
                                      refine V_ldc h q3_67 (dk dd_L_fails_2 36 rfl) ?_
                                      refine V_icmp_ne (tgt := 334) h (dk dd_L_fails_2 37 rfl) rfl (by omega) (fun c249 => ?_) (fun c249 => ?_)
                                      · exfalso; omega
                                      · refine V_aload_n h (dk dd_L_fails_2 38 rfl) rfl get0 ?_
                                        refine V_aload_n h (dk dd_L_fails_2 39 rfl) rfl get0 ?_
                                        refine V_callV h st1 ci_L_44 (pk_c get0 (pk_c get25 (pk_c get26 (pk_c get27 (pk_c get28 pk_n))))) rfl 0 get0 rfl (m_X11_hits l G _ _ _ _ _ _ _ _ _ _ _ _ _ _ _ _ _ _ ) rfl rfl (Nat.le_of_ble_eq_true rfl) (by decide) ⟨rfl, rfl, rfl⟩ (dk dd_L_fails_2 40 rfl) sk1 (sm_c set0 (sm_c set25 (sm_c set26 (sm_c set27 (sm_c set28 sm_n))))) ?_
                                        refine V_iconst h (dk dd_L_fails_2 41 rfl) ?_
                                        refine V_callV h st3 ci_L_47 (pk_c get0 (pk_c get25 (pk_c get26 (pk_c get27 (pk_c get28 pk_n))))) rfl 0 get0 rfl (m_hit_bad l G _ _ _ _ _ _ _ _ _ _ _ _ _ _ _ _ _ _ _ _ (by omega) (by omega) (by omega) (by omega)) rfl rfl (Nat.le_of_ble_eq_true rfl) (by decide) ⟨rfl, rfl, rfl⟩ (dk dd_L_fails_2 42 rfl) sk1 (sm_c set0 (sm_c set25 (sm_c set26 (sm_c set27 (sm_c set28 sm_n))))) ?_
                                        refine V_ldc2 h q3_79 (dk dd_L_fails_2 43 rfl) ?_
                                        refine V_lcmp_ne (tgt := 334) h (dk dd_L_fails_2 44 rfl) (dk dd_L_fails_2 45 rfl) rfl (by omega) (fun c264 => ?_) (fun c264 => ?_)
                                        · exfalso; omega
                                        · refine V_aload_n h (dk dd_L_fails_2 46 rfl) rfl get0 ?_
                                          refine V_iconst h (dk dd_L_fails_2 47 rfl) ?_
                                          refine V_iconst h (dk dd_L_fails_2 48 rfl) ?_
                                          refine V_callV h st3 ci_L_47 (pk_c get0 (pk_c get25 (pk_c get26 (pk_c get27 (pk_c get28 pk_n))))) rfl 0 get0 rfl (m_hit_bad l G _ _ _ _ _ _ _ _ _ _ _ _ _ _ _ _ _ _ _ _ (by omega) (by omega) (by omega) (by omega)) rfl rfl (Nat.le_of_ble_eq_true rfl) (by decide) ⟨rfl, rfl, rfl⟩ (dk dd_L_fails_2 49 rfl) sk1 (sm_c set0 (sm_c set25 (sm_c set26 (sm_c set27 (sm_c set28 sm_n))))) ?_
                                          refine V_ldc2 h q3_79 (dk dd_L_fails_3 0 rfl) ?_
                                          refine V_lcmp_ne (tgt := 334) h (dk dd_L_fails_3 1 rfl) (dk dd_L_fails_3 2 rfl) rfl (by omega) (fun c277 => ?_) (fun c277 => ?_)
                                          · exfalso; omega
                                          · refine V_aload_n h (dk dd_L_fails_3 3 rfl) rfl get0 ?_
                                            refine V_bipush h (dk dd_L_fails_3 4 rfl) (by decide) ?_
                                            refine V_iconst h (dk dd_L_fails_3 5 rfl) ?_
                                            refine V_callV h st3 ci_L_53 (pk_c get0 (pk_c get25 (pk_c get31 (pk_c get32 pk_n)))) rfl 0 get0 rfl (m_heard_bad l G _ _ _ _ _ _ _ _ _ _ _ _ _ _ _ (by omega) (by omega) (by omega)) rfl rfl (Nat.le_of_ble_eq_true rfl) (by decide) ⟨rfl, rfl, rfl⟩ (dk dd_L_fails_3 6 rfl) sk1 (sm_c set0 (sm_c set25 (sm_c set31 (sm_c set32 sm_n)))) ?_
                                            refine V_ldc2 h q3_79 (dk dd_L_fails_3 7 rfl) ?_
                                            refine V_lcmp_ne (tgt := 334) h (dk dd_L_fails_3 8 rfl) (dk dd_L_fails_3 9 rfl) rfl (by omega) (fun c291 => ?_) (fun c291 => ?_)
                                            · exfalso; omega
                                            · refine V_aload_n h (dk dd_L_fails_3 10 rfl) rfl get0 ?_
                                              refine V_iconst h (dk dd_L_fails_3 11 rfl) ?_
                                              refine V_iconst h (dk dd_L_fails_3 12 rfl) ?_
                                              refine V_callV h st3 ci_L_53 (pk_c get0 (pk_c get25 (pk_c get31 (pk_c get32 pk_n)))) rfl 0 get0 rfl (m_heard_bad l G _ _ _ _ _ _ _ _ _ _ _ _ _ _ _ (by omega) (by omega) (by omega)) rfl rfl (Nat.le_of_ble_eq_true rfl) (by decide) ⟨rfl, rfl, rfl⟩ (dk dd_L_fails_3 13 rfl) sk1 (sm_c set0 (sm_c set25 (sm_c set31 (sm_c set32 sm_n)))) ?_
                                              refine V_ldc2 h q3_79 (dk dd_L_fails_3 14 rfl) ?_
                                              refine V_lcmp_ne (tgt := 334) h (dk dd_L_fails_3 15 rfl) (dk dd_L_fails_3 16 rfl) rfl (by omega) (fun c304 => ?_) (fun c304 => ?_)
                                              · exfalso; omega
                                              · refine V_aload_n h (dk dd_L_fails_3 17 rfl) rfl get0 ?_
                                                refine V_iconst h (dk dd_L_fails_3 18 rfl) ?_
                                                refine V_callV h st2 ci_L_56 (pk_c get0 (pk_c get25 (pk_c get26 (pk_c get27 (pk_c get28 pk_n))))) rfl 0 get0 rfl (m_echo_bad l G _ _ _ _ _ _ _ _ _ _ _ _ _ _ _ _ _ _ _ (by omega) (by omega) (by omega)) rfl rfl (Nat.le_of_ble_eq_true rfl) (by decide) ⟨rfl, rfl, rfl⟩ (dk dd_L_fails_3 19 rfl) sk1 (sm_c set0 (sm_c set25 (sm_c set26 (sm_c set27 (sm_c set28 sm_n))))) ?_
                                                refine V_ldc h q3_67 (dk dd_L_fails_3 20 rfl) ?_
                                                refine V_icmp_ne (tgt := 334) h (dk dd_L_fails_3 21 rfl) rfl (by omega) (fun c315 => ?_) (fun c315 => ?_)
                                                · exfalso; omega
                                                · refine V_aload_n h (dk dd_L_fails_3 22 rfl) rfl get0 ?_
                                                  refine V_sipush h (dk dd_L_fails_3 23 rfl) (by decide) ?_
                                                  refine V_callV h st2 ci_L_56 (pk_c get0 (pk_c get25 (pk_c get26 (pk_c get27 (pk_c get28 pk_n))))) rfl 0 get0 rfl (m_echo_none l G _ _ _ _ _ _ _ _ _ _ _ _ _ _ _ _ _ _ _ (by omega) (by omega)) rfl rfl (Nat.le_of_ble_eq_true rfl) (by decide) ⟨rfl, rfl, rfl⟩ (dk dd_L_fails_3 24 rfl) sk1 (sm_c set0 (sm_c set25 (sm_c set26 (sm_c set27 (sm_c set28 sm_n))))) ?_
                                                  refine V_ldc h q3_91 (dk dd_L_fails_3 25 rfl) ?_
                                                  refine V_icmp_ne (tgt := 334) h (dk dd_L_fails_3 26 rfl) rfl (by omega) (fun c327 => ?_) (fun c327 => ?_)
                                                  · exfalso; omega
                                                  · refine V_iconst h (dk dd_L_fails_3 27 rfl) ?_
                                                    refine V_goto (tgt := 335) h (dk dd_L_fails_3 28 rfl) rfl ?_
                                                    refine V_istore_n h (dk dd_L_fails_3 30 rfl) rfl (Nat.le_of_ble_eq_true rfl) rfl set3 ?_
                                                    refine V_iload_n h (dk dd_L_fails_3 31 rfl) rfl get3 ?_
                                                    refine V_if_eq (tgt := 445) h (dk dd_L_fails_3 32 rfl) rfl (by omega) (fun c337 => ?_) (fun c337 => ?_)
                                                    · exfalso; omega
                                                    · refine V_aload_n h (dk dd_L_fails_3 33 rfl) rfl get0 ?_
                                                      refine V_sipush h (dk dd_L_fails_3 34 rfl) (by decide) ?_
                                                      refine V_callV h st2 ci_L_60 (pk_c get0 (pk_c get25 (pk_c get33 (pk_c get34 pk_n)))) rfl 0 get0 rfl (m_crossings_bad l G _ _ _ _ _ _ _ _ _ _ _ _ _ _ _ (by omega) (by omega)) rfl rfl (Nat.le_of_ble_eq_true rfl) (by decide) ⟨rfl, rfl, rfl⟩ (dk dd_L_fails_3 35 rfl) sk1 (sm_c set0 (sm_c set25 (sm_c set33 (sm_c set34 sm_n)))) ?_
                                                      refine V_ldc h q3_67 (dk dd_L_fails_3 36 rfl) ?_
                                                      refine V_icmp_ne (tgt := 445) h (dk dd_L_fails_3 37 rfl) rfl (by omega) (fun c349 => ?_) (fun c349 => ?_)
                                                      · exfalso; omega
                                                      · refine V_aload_n h (dk dd_L_fails_3 38 rfl) rfl get0 ?_
                                                        refine V_iconst h (dk dd_L_fails_3 39 rfl) ?_
                                                        refine V_callV h st2 ci_L_63 pk_n rfl 0 get0 rfl (m_time_bad l G _ _ (by omega) (by omega)) rfl rfl (Nat.le_of_ble_eq_true rfl) (by decide) ⟨rfl, rfl, rfl⟩ (dk dd_L_fails_3 40 rfl) sk1 sm_n ?_
                                                        refine V_ldc h q3_67 (dk dd_L_fails_3 41 rfl) ?_
                                                        refine V_icmp_ne (tgt := 445) h (dk dd_L_fails_3 42 rfl) rfl (by omega) (fun c359 => ?_) (fun c359 => ?_)
                                                        · exfalso; omega
                                                        · refine V_aload_n h (dk dd_L_fails_3 43 rfl) rfl get0 ?_
                                                          refine V_sipush h (dk dd_L_fails_3 44 rfl) (by decide) ?_
                                                          refine V_callV h st2 ci_L_66 pk_n rfl 0 get0 rfl (m_caustic_bad l G _ _ (by omega) (by omega)) rfl rfl (Nat.le_of_ble_eq_true rfl) (by decide) ⟨rfl, rfl, rfl⟩ (dk dd_L_fails_3 45 rfl) sk1 sm_n ?_
                                                          refine V_ldc h q3_67 (dk dd_L_fails_3 46 rfl) ?_
                                                          refine V_icmp_ne (tgt := 445) h (dk dd_L_fails_3 47 rfl) rfl (by omega) (fun c371 => ?_) (fun c371 => ?_)
                                                          · exfalso; omega
                                                          · refine V_aload_n h (dk dd_L_fails_3 48 rfl) rfl get0 ?_
                                                            refine V_iconst h (dk dd_L_fails_3 49 rfl) ?_
                                                            refine V_callV h st2 ci_L_69 pk_n rfl 0 get0 rfl (m_order_bad l G _ _ (by omega) (by omega)) rfl rfl (Nat.le_of_ble_eq_true rfl) (by decide) ⟨rfl, rfl, rfl⟩ (dk dd_L_fails_4 0 rfl) sk1 sm_n ?_
                                                            refine V_ldc h q3_67 (dk dd_L_fails_4 1 rfl) ?_
                                                            refine V_icmp_ne (tgt := 445) h (dk dd_L_fails_4 2 rfl) rfl (by omega) (fun c381 => ?_) (fun c381 => ?_)
                                                            · exfalso; omega
                                                            · refine V_aload_n h (dk dd_L_fails_4 3 rfl) rfl get0 ?_
                                                              refine V_iconst h (dk dd_L_fails_4 4 rfl) ?_
                                                              refine V_callV h st2 ci_L_72 pk_n rfl 0 get0 rfl (m_turns_bad l G _ _ (by omega) (by omega)) rfl rfl (Nat.le_of_ble_eq_true rfl) (by decide) ⟨rfl, rfl, rfl⟩ (dk dd_L_fails_4 5 rfl) sk1 sm_n ?_
                                                              refine V_ldc h q3_67 (dk dd_L_fails_4 6 rfl) ?_
                                                              refine V_icmp_ne (tgt := 445) h (dk dd_L_fails_4 7 rfl) rfl (by omega) (fun c391 => ?_) (fun c391 => ?_)
                                                              · exfalso; omega
                                                              · refine V_aload_n h (dk dd_L_fails_4 8 rfl) rfl get0 ?_
                                                                refine V_iconst h (dk dd_L_fails_4 9 rfl) ?_
                                                                refine V_iconst h (dk dd_L_fails_4 10 rfl) ?_
                                                                refine V_iconst h (dk dd_L_fails_4 11 rfl) ?_
                                                                refine V_callV h st4 ci_L_75 pk_n rfl 0 get0 rfl (m_aim_bad l G _ _ _ _ (by omega) (by omega) (by omega) (by omega)) rfl rfl (Nat.le_of_ble_eq_true rfl) (by decide) ⟨rfl, rfl, rfl⟩ (dk dd_L_fails_4 12 rfl) sk1 sm_n ?_
                                                                refine V_ldc h q3_67 (dk dd_L_fails_4 13 rfl) ?_
                                                                refine V_icmp_ne (tgt := 445) h (dk dd_L_fails_4 14 rfl) rfl (by omega) (fun c403 => ?_) (fun c403 => ?_)
                                                                · exfalso; omega
                                                                · refine V_aload_n h (dk dd_L_fails_4 15 rfl) rfl get0 ?_
                                                                  refine V_iconst h (dk dd_L_fails_4 16 rfl) ?_
                                                                  refine V_iconst h (dk dd_L_fails_4 17 rfl) ?_
                                                                  refine V_bipush h (dk dd_L_fails_4 18 rfl) (by decide) ?_
                                                                  refine V_callV h st4 ci_L_75 pk_n rfl 0 get0 rfl (m_aim_bad l G _ _ _ _ (by omega) (by omega) (by omega) (by omega)) rfl rfl (Nat.le_of_ble_eq_true rfl) (by decide) ⟨rfl, rfl, rfl⟩ (dk dd_L_fails_4 19 rfl) sk1 sm_n ?_
                                                                  refine V_ldc h q3_67 (dk dd_L_fails_4 20 rfl) ?_
                                                                  refine V_icmp_ne (tgt := 445) h (dk dd_L_fails_4 21 rfl) rfl (by omega) (fun c416 => ?_) (fun c416 => ?_)
                                                                  · exfalso; omega
                                                                  · refine V_aload_n h (dk dd_L_fails_4 22 rfl) rfl get0 ?_
                                                                    refine V_ldc h q3_128 (dk dd_L_fails_4 23 rfl) ?_
                                                                    refine V_callV h st2 ci_L_79 pk_n rfl 0 get0 rfl (m_widest_bad l G _ _ (by omega) (by omega)) rfl rfl (Nat.le_of_ble_eq_true rfl) (by decide) ⟨rfl, rfl, rfl⟩ (dk dd_L_fails_4 24 rfl) sk1 sm_n ?_
                                                                    refine V_ldc h q3_67 (dk dd_L_fails_4 25 rfl) ?_
                                                                    refine V_icmp_ne (tgt := 445) h (dk dd_L_fails_4 26 rfl) rfl (by omega) (fun c427 => ?_) (fun c427 => ?_)
                                                                    · exfalso; omega
                                                                    · refine V_aload_n h (dk dd_L_fails_4 27 rfl) rfl get0 ?_
                                                                      refine V_bipush h (dk dd_L_fails_4 28 rfl) (by decide) ?_
                                                                      refine V_callV h st2 ci_L_82 (pk_c get0 (pk_c get21 (pk_c get22 (pk_c get23 (pk_c get24 pk_n))))) rfl 0 get0 rfl (m_type_bad l G _ _ _ _ _ _ _ _ _ _ _ _ _ _ _ _ (hC) (by omega) (by omega)) rfl rfl (Nat.le_of_ble_eq_true rfl) (by decide) ⟨rfl, rfl, rfl⟩ (dk dd_L_fails_4 29 rfl) sk1 (sm_c set0 (sm_c set21 (sm_c set22 (sm_c set23 (sm_c set24 sm_n))))) ?_
                                                                      refine V_ldc h q3_67 (dk dd_L_fails_4 30 rfl) ?_
                                                                      refine V_icmp_ne (tgt := 445) h (dk dd_L_fails_4 31 rfl) rfl (by omega) (fun c438 => ?_) (fun c438 => ?_)
                                                                      · exfalso; omega
                                                                      · refine V_iconst h (dk dd_L_fails_4 32 rfl) ?_
                                                                        refine V_goto (tgt := 446) h (dk dd_L_fails_4 33 rfl) rfl ?_
                                                                        refine V_istore_n h (dk dd_L_fails_4 35 rfl) rfl (Nat.le_of_ble_eq_true rfl) rfl set3 ?_
                                                                        refine V_iload_n h (dk dd_L_fails_4 36 rfl) rfl get3 ?_
                                                                        refine V_if_eq (tgt := 464) h (dk dd_L_fails_4 37 rfl) rfl (by omega) (fun c448 => ?_) (fun c448 => ?_)
                                                                        · exfalso; omega
                                                                        · refine V_aload_n h (dk dd_L_fails_4 38 rfl) rfl get0 ?_
                                                                          refine V_callV h st1 ci_L_9 (pk_c get0 (pk_c get1 (pk_c get2 (pk_c get3 (pk_c get25 (pk_c get26 (pk_c get27 (pk_c get28 (pk_c get29 (pk_c get30 (pk_c get31 (pk_c get32 pk_n)))))))))))) rfl 0 get0 rfl (m_X11_fingerprint l G _ _ _ _ _ _ _ _ _ _ _ _ _ _ _ _ _ _ _ _ _ _ _ _ _ _ _ _ _ (by omega) (hfR) (by omega) (by omega) (by omega) (by omega) (by omega)) rfl rfl (Nat.le_of_ble_eq_true rfl) (by decide) ⟨rfl, rfl, rfl⟩ (dk dd_L_fails_4 39 rfl) sk1 (sm_c set0 (sm_c set1 (sm_c set2 (sm_c set3 (sm_c set25 (sm_c set26 (sm_c set27 (sm_c set28 (sm_c set29 (sm_c set30 (sm_c set31 (sm_c set32 sm_n)))))))))))) ?_
                                                                          refine V_lload_n h (dk dd_L_fails_4 40 rfl) rfl get1 ?_
                                                                          refine V_lcmp_same h (dk dd_L_fails_4 41 rfl) ?_
                                                                          refine V_if_ne (tgt := 464) h (dk dd_L_fails_4 42 rfl) rfl (by omega) (fun c457 => ?_) (fun c457 => ?_)
                                                                          · exfalso; omega
                                                                          · refine V_iconst h (dk dd_L_fails_4 43 rfl) ?_
                                                                            refine V_goto (tgt := 465) h (dk dd_L_fails_4 44 rfl) rfl ?_
                                                                            refine V_zret h hF (dk dd_L_fails_4 46 rfl) ⟨Nat.le_of_ble_eq_true rfl, Nat.le_of_ble_eq_true rfl⟩ (by first | exact Or.inr rfl | exact Or.inl rfl | exact bZ_01 | omega) ?_
                                                                            exact det_i rfl rfl

set_option maxHeartbeats 4000000 in
set_option maxRecDepth 100000 in
theorem m_L_chords (l : Launch) (G : GT) (x w hi tx sh : Nat) (s : Int) (hs : isStepP s) : Ctr l G yL_chords cL_chords 5 (Option.some FieldType.boolean) (rmO 3 0 0 65) [.ref x, .int (iZ s)] [(x, .inr (10, [.ref w, .ref hi, .ref tx, .ref sh]))] (Det (some (.int (iZ 1))) [(x, .inr (10, [.ref w, .ref hi, .ref tx, .ref sh]))]) := by
  refine Ctr.go (own := RL) (nm := "chords") (by decide +kernel) rfl rfl [some (.ref x), some (.int (iZ s)), none, none, none] 3 rfl rfl (Nat.le_of_ble_eq_true rfl) ?_
  intro K h hF
  have hs1 := hs.1
  have hs2 := hs.2.1
  have hs3 := hs.2.2
  have hO := ord_R s
  have hT := turns_R hs.2
  have hOT := ord_turns s
  have hpr := prod_R (a := 27720 / gcdF s) (b := (s.natAbs : Int)) ⟨by omega, hO.2⟩ ⟨by omega, by omega⟩
  have hcn := chord_neg s
  have hkn := caus_neg s
  have hgn := gcd_neg2 s
  have hcr := chord_R hs.2
  have hkr := caus_R hs.2
  have hcp := chord_pos (a := (s.natAbs : Int)) ⟨by omega, by omega⟩
  have hcr2 := chord_R (s := (s.natAbs : Int)) (by omega)
  have hkr2 := caus_R (s := (s.natAbs : Int)) (by omega)
  refine V_aload_n h (dk dd_L_chords_0 0 rfl) rfl get0 ?_
  refine V_iload_n h (dk dd_L_chords_0 1 rfl) rfl get1 ?_
  refine V_callV h st2 ci_L_69 pk_n rfl 0 get0 rfl (m_order_in l G _ _ (hs)) rfl rfl (Nat.le_of_ble_eq_true rfl) (by decide) ⟨rfl, rfl, rfl⟩ (dk dd_L_chords_0 2 rfl) sk1 sm_n ?_
  refine V_istore_n h (dk dd_L_chords_0 3 rfl) rfl (Nat.le_of_ble_eq_true rfl) rfl set2 ?_
  refine V_aload_n h (dk dd_L_chords_0 4 rfl) rfl get0 ?_
  refine V_iload_n h (dk dd_L_chords_0 5 rfl) rfl get1 ?_
  refine V_callV h st2 ci_L_72 pk_n rfl 0 get0 rfl (m_turns_in l G _ _ (hs)) rfl rfl (Nat.le_of_ble_eq_true rfl) (by decide) ⟨rfl, rfl, rfl⟩ (dk dd_L_chords_0 6 rfl) sk1 sm_n ?_
  refine V_istore_n h (dk dd_L_chords_0 7 rfl) rfl (Nat.le_of_ble_eq_true rfl) rfl set3 ?_
  refine V_iload_n h (dk dd_L_chords_0 8 rfl) rfl get1 ?_
  have J22 : ∀ (a : Int), a = (s.natAbs : Int) → V K (0, 0) 22 [some (.ref x), some (.int (iZ s)), some (.int (iZ (27720 / gcdF s))), some (.int (iZ ((s.natAbs : Int) / gcdF s))), none] [.int (iZ a)] [(x, .inr (10, [.ref w, .ref hi, .ref tx, .ref sh]))] := by
    intro a hJ22
    subst hJ22
    have hcm : (s.natAbs : Int) + 1 ≤ 13859 → chordF (s.natAbs : Int) ≤ chordF ((s.natAbs : Int) + 1) ∧ chordF ((s.natAbs : Int) + 1) ≤ 2000000 ∧ 0 ≤ causF ((s.natAbs : Int) + 1) ∧ causF ((s.natAbs : Int) + 1) ≤ causF (s.natAbs : Int) := fun q => ⟨chord_mono (by omega) q, (chord_R (by omega)).2, (caus_R (by omega)).1, caus_mono2 (by omega) q⟩
    refine V_istore h (dk dd_L_chords_0 14 rfl) (Nat.le_of_ble_eq_true rfl) rfl set4 ?_
    refine V_iload_n h (dk dd_L_chords_0 15 rfl) rfl get2 ?_
    refine V_i2l h (dk dd_L_chords_0 16 rfl) (by omega) ?_
    refine V_iload h (dk dd_L_chords_0 17 rfl) get4 ?_
    refine V_i2l h (dk dd_L_chords_0 18 rfl) (by omega) ?_
    refine V_lmul h (dk dd_L_chords_0 19 rfl) ?_
    refine V_iload_n h (dk dd_L_chords_0 20 rfl) rfl get3 ?_
    refine V_i2l h (dk dd_L_chords_0 21 rfl) (by omega) ?_
    refine V_ldc2 h q3_144 (dk dd_L_chords_0 22 rfl) ?_
    refine V_lmul h (dk dd_L_chords_0 23 rfl) ?_
    refine V_lcmp_ne (tgt := 133) h (dk dd_L_chords_0 24 rfl) (dk dd_L_chords_0 25 rfl) rfl (by omega) (fun c36 => ?_) (fun c36 => ?_)
    · exfalso; omega
    · refine V_iload_n h (dk dd_L_chords_0 26 rfl) rfl get2 ?_
      refine V_aload_n h (dk dd_L_chords_0 27 rfl) rfl get0 ?_
      refine V_iload_n h (dk dd_L_chords_0 28 rfl) rfl get1 ?_
      refine V_ineg h (dk dd_L_chords_0 29 rfl) ?_
      refine V_callV h st2 ci_L_69 pk_n rfl 0 get0 rfl (m_order_in l G _ _ (⟨by omega, by omega, by omega⟩)) rfl rfl (Nat.le_of_ble_eq_true rfl) (by decide) ⟨rfl, rfl, rfl⟩ (dk dd_L_chords_0 30 rfl) sk1 sm_n ?_
      refine V_icmp_ne (tgt := 133) h (dk dd_L_chords_0 31 rfl) rfl (by omega) (fun c47 => ?_) (fun c47 => ?_)
      · exfalso; omega
      · refine V_aload_n h (dk dd_L_chords_0 32 rfl) rfl get0 ?_
        refine V_iload_n h (dk dd_L_chords_0 33 rfl) rfl get1 ?_
        refine V_callV h st2 ci_L_63 pk_n rfl 0 get0 rfl (m_time_in l G _ _ (hs)) rfl rfl (Nat.le_of_ble_eq_true rfl) (by decide) ⟨rfl, rfl, rfl⟩ (dk dd_L_chords_0 34 rfl) sk1 sm_n ?_
        refine V_aload_n h (dk dd_L_chords_0 35 rfl) rfl get0 ?_
        refine V_iload_n h (dk dd_L_chords_0 36 rfl) rfl get1 ?_
        refine V_ineg h (dk dd_L_chords_0 37 rfl) ?_
        refine V_callV h st2 ci_L_63 pk_n rfl 0 get0 rfl (m_time_in l G _ _ (⟨by omega, by omega, by omega⟩)) rfl rfl (Nat.le_of_ble_eq_true rfl) (by decide) ⟨rfl, rfl, rfl⟩ (dk dd_L_chords_0 38 rfl) sk1 sm_n ?_
        refine V_icmp_ne (tgt := 133) h (dk dd_L_chords_0 39 rfl) rfl (by omega) (fun c61 => ?_) (fun c61 => ?_)
        · exfalso; omega
        · refine V_aload_n h (dk dd_L_chords_0 40 rfl) rfl get0 ?_
          refine V_iload_n h (dk dd_L_chords_0 41 rfl) rfl get1 ?_
          refine V_callV h st2 ci_L_66 pk_n rfl 0 get0 rfl (m_caustic_in l G _ _ (hs)) rfl rfl (Nat.le_of_ble_eq_true rfl) (by decide) ⟨rfl, rfl, rfl⟩ (dk dd_L_chords_0 42 rfl) sk1 sm_n ?_
          refine V_aload_n h (dk dd_L_chords_0 43 rfl) rfl get0 ?_
          refine V_iload_n h (dk dd_L_chords_0 44 rfl) rfl get1 ?_
          refine V_ineg h (dk dd_L_chords_0 45 rfl) ?_
          refine V_callV h st2 ci_L_66 pk_n rfl 0 get0 rfl (m_caustic_in l G _ _ (⟨by omega, by omega, by omega⟩)) rfl rfl (Nat.le_of_ble_eq_true rfl) (by decide) ⟨rfl, rfl, rfl⟩ (dk dd_L_chords_0 46 rfl) sk1 sm_n ?_
          refine V_icmp_ne (tgt := 133) h (dk dd_L_chords_0 47 rfl) rfl (by omega) (fun c75 => ?_) (fun c75 => ?_)
          · exfalso; omega
          · refine V_aload_n h (dk dd_L_chords_0 48 rfl) rfl get0 ?_
            refine V_iload h (dk dd_L_chords_0 49 rfl) get4 ?_
            refine V_callV h st2 ci_L_63 pk_n rfl 0 get0 rfl (m_time_in l G _ _ (⟨by omega, by omega, by omega⟩)) rfl rfl (Nat.le_of_ble_eq_true rfl) (by decide) ⟨rfl, rfl, rfl⟩ (dk dd_L_chords_1 0 rfl) sk1 sm_n ?_
            refine V_if_le (tgt := 133) h (dk dd_L_chords_1 1 rfl) rfl (by omega) (fun c84 => ?_) (fun c84 => ?_)
            · exfalso; omega
            · refine V_iload h (dk dd_L_chords_1 2 rfl) get4 ?_
              refine V_sipush h (dk dd_L_chords_1 3 rfl) (by decide) ?_
              refine V_icmp_eq (tgt := 129) h (dk dd_L_chords_1 4 rfl) rfl (by omega) (fun c92 => ?_) (fun c92 => ?_)
              · refine V_iconst h (dk dd_L_chords_1 23 rfl) ?_
                refine V_goto (tgt := 134) h (dk dd_L_chords_1 24 rfl) rfl ?_
                refine V_zret h hF (dk dd_L_chords_1 26 rfl) ⟨Nat.le_of_ble_eq_true rfl, Nat.le_of_ble_eq_true rfl⟩ (by first | exact Or.inr rfl | exact Or.inl rfl | exact bZ_01 | omega) ?_
                exact det_i rfl rfl
              · refine V_aload_n h (dk dd_L_chords_1 5 rfl) rfl get0 ?_
                refine V_iload h (dk dd_L_chords_1 6 rfl) get4 ?_
                refine V_iconst h (dk dd_L_chords_1 7 rfl) ?_
                refine V_iadd h (dk dd_L_chords_1 8 rfl) ?_
                refine V_callV h st2 ci_L_63 pk_n rfl 0 get0 rfl (m_time_in l G _ _ (⟨by omega, by omega, by omega⟩)) rfl rfl (Nat.le_of_ble_eq_true rfl) (by decide) ⟨rfl, rfl, rfl⟩ (dk dd_L_chords_1 9 rfl) sk1 sm_n ?_
                refine V_aload_n h (dk dd_L_chords_1 10 rfl) rfl get0 ?_
                refine V_iload h (dk dd_L_chords_1 11 rfl) get4 ?_
                refine V_callV h st2 ci_L_63 pk_n rfl 0 get0 rfl (m_time_in l G _ _ (⟨by omega, by omega, by omega⟩)) rfl rfl (Nat.le_of_ble_eq_true rfl) (by decide) ⟨rfl, rfl, rfl⟩ (dk dd_L_chords_1 12 rfl) sk1 sm_n ?_
                refine V_icmp_lt (tgt := 133) h (dk dd_L_chords_1 13 rfl) rfl (by omega) (fun c109 => ?_) (fun c109 => ?_)
                · exfalso; omega
                · refine V_aload_n h (dk dd_L_chords_1 14 rfl) rfl get0 ?_
                  refine V_iload h (dk dd_L_chords_1 15 rfl) get4 ?_
                  refine V_iconst h (dk dd_L_chords_1 16 rfl) ?_
                  refine V_iadd h (dk dd_L_chords_1 17 rfl) ?_
                  refine V_callV h st2 ci_L_66 pk_n rfl 0 get0 rfl (m_caustic_in l G _ _ (⟨by omega, by omega, by omega⟩)) rfl rfl (Nat.le_of_ble_eq_true rfl) (by decide) ⟨rfl, rfl, rfl⟩ (dk dd_L_chords_1 18 rfl) sk1 sm_n ?_
                  refine V_aload_n h (dk dd_L_chords_1 19 rfl) rfl get0 ?_
                  refine V_iload h (dk dd_L_chords_1 20 rfl) get4 ?_
                  refine V_callV h st2 ci_L_66 pk_n rfl 0 get0 rfl (m_caustic_in l G _ _ (⟨by omega, by omega, by omega⟩)) rfl rfl (Nat.le_of_ble_eq_true rfl) (by decide) ⟨rfl, rfl, rfl⟩ (dk dd_L_chords_1 21 rfl) sk1 sm_n ?_
                  refine V_icmp_gt (tgt := 133) h (dk dd_L_chords_1 22 rfl) rfl (by omega) (fun c126 => ?_) (fun c126 => ?_)
                  · exfalso; omega
                  · refine V_iconst h (dk dd_L_chords_1 23 rfl) ?_
                    refine V_goto (tgt := 134) h (dk dd_L_chords_1 24 rfl) rfl ?_
                    refine V_zret h hF (dk dd_L_chords_1 26 rfl) ⟨Nat.le_of_ble_eq_true rfl, Nat.le_of_ble_eq_true rfl⟩ (by first | exact Or.inr rfl | exact Or.inl rfl | exact bZ_01 | omega) ?_
                    exact det_i rfl rfl
  refine V_if_ge (tgt := 21) h (dk dd_L_chords_0 9 rfl) rfl (by omega) (fun c13 => ?_) (fun c13 => ?_)
  · refine V_iload_n h (dk dd_L_chords_0 13 rfl) rfl get1 ?_
    exact J22 _ (by omega)
  · refine V_iload_n h (dk dd_L_chords_0 10 rfl) rfl get1 ?_
    refine V_ineg h (dk dd_L_chords_0 11 rfl) ?_
    refine V_goto (tgt := 22) h (dk dd_L_chords_0 12 rfl) rfl ?_
    exact J22 _ (by omega)

set_option maxHeartbeats 4000000 in
set_option maxRecDepth 100000 in
theorem m_L_hits (l : Launch) (G : GT) (x w hi tx sh rr lo mk ea pt : Nat) (m : Int) (lb lc : Nat) (nh ec es : Int) (Nn Ec : Int → Int) (p0 s0 e0 : Int) (hOK : ∀ i, 0 ≤ i → i < nh → HitOK Nn m e0 p0 s0 i) (hh : 1 ≤ nh ∧ nh ≤ 600) (hm : 1 ≤ m ∧ m ≤ 100) (hes : es = sumE Nn nh.toNat) (hp0 : 0 ≤ p0 ∧ p0 < 27720) (he0 : 1 ≤ e0 ∧ e0 ≤ 1000000) : Ctr l G yL_hits cL_hits 21 (Option.some FieldType.boolean) (rmO 3 2 128 64) [.ref x, .int (iZ p0), .int (iZ s0), .int (iZ e0)] [(x, .inr (10, [.ref w, .ref hi, .ref tx, .ref sh])), (sh, .inr (7, [.ref rr, .ref lo, .ref mk, .ref ea, .ref pt, .int (iZ m)])), (lo, .inr (2, [.ref lb, .ref lc, .int (iZ nh), .int (iZ ec), .long (lZ es)])), (lb, .inl (G.2 1, 3000, .inr (.inl (lF Nn)))), (lc, .inl (G.2 0, 600, .inl (iF Ec)))] (Det (some (.int (iZ 1))) [(x, .inr (10, [.ref w, .ref hi, .ref tx, .ref sh])), (sh, .inr (7, [.ref rr, .ref lo, .ref mk, .ref ea, .ref pt, .int (iZ m)])), (lo, .inr (2, [.ref lb, .ref lc, .int (iZ nh), .int (iZ ec), .long (lZ es)])), (lb, .inl (G.2 1, 3000, .inr (.inl (lF Nn)))), (lc, .inl (G.2 0, 600, .inl (iF Ec)))]) := by
  refine Ctr.go (own := RL) (nm := "hits") (by decide +kernel) rfl rfl [some (.ref x), some (.int (iZ p0)), some (.int (iZ s0)), some (.int (iZ e0)), none, none, none, none, none, none, none, none, none, none, none, none, none, none, none, none, none] 17 rfl rfl (Nat.le_of_ble_eq_true rfl) ?_
  intro K h hF
  refine V_aload_n h (dk dd_L_hits_0 0 rfl) rfl get0 ?_
  refine V_callVc h st1 ci_L_44 (pk_c get0 (pk_c get1 (pk_c get2 (pk_c get3 (pk_c get4 pk_n))))) rfl 0 get0 (m_X11_hits l G _ _ _ _ _ _ _ _ _ _ _ _ _ _ _ _ _ _ ) rfl rfl rfl (by decide) (Nat.le_of_ble_eq_true rfl) ⟨rfl, rfl⟩ ⟨Nat.le_of_ble_eq_true rfl, Nat.le_of_ble_eq_true rfl⟩ (dk dd_L_hits_0 1 rfl) sk1 (sm_c set0 (sm_c set1 (sm_c set2 (sm_c set3 (sm_c set4 sm_n))))) ?_
  refine V_istore h (dk dd_L_hits_0 2 rfl) (Nat.le_of_ble_eq_true rfl) rfl set4 ?_
  refine V_lconst0 h (dk dd_L_hits_0 3 rfl) ?_
  refine V_lstore h (dk dd_L_hits_0 4 rfl) (Nat.le_of_ble_eq_true rfl) rfl set5 set6 ?_
  refine V_lconst0 h (dk dd_L_hits_0 5 rfl) ?_
  refine V_lstore h (dk dd_L_hits_0 6 rfl) (Nat.le_of_ble_eq_true rfl) rfl set7 set8 ?_
  refine V_bipush h (dk dd_L_hits_0 7 rfl) (by decide) ?_
  refine V_newa (atype := .long) (N := 64) (a0 := (64, .inr (.inl (lF z0)))) h 1 rfl rfl q1_136 ra_long ar_long (by omega) rfl (Nat.le_of_ble_eq_true rfl) (⟨Nat.le_of_ble_eq_true rfl, Nat.le_of_ble_eq_true rfl⟩) (dk dd_L_hits_0 8 rfl) (fun n14 => ?_)
  refine V_astore h (dk dd_L_hits_0 9 rfl) (Nat.le_of_ble_eq_true rfl) rfl set9 ?_
  refine V_bipush h (dk dd_L_hits_0 10 rfl) (by decide) ?_
  refine V_newa (atype := .long) (N := 64) (a0 := (64, .inr (.inl (lF z0)))) h 1 rfl rfl q1_136 ra_long ar_long (by omega) rfl (Nat.le_of_ble_eq_true rfl) (⟨Nat.le_of_ble_eq_true rfl, Nat.le_of_ble_eq_true rfl⟩) (dk dd_L_hits_0 11 rfl) (fun n20 => ?_)
  refine V_astore h (dk dd_L_hits_0 12 rfl) (Nat.le_of_ble_eq_true rfl) rfl set10 ?_
  refine V_iconst h (dk dd_L_hits_0 13 rfl) ?_
  refine V_istore h (dk dd_L_hits_0 14 rfl) (Nat.le_of_ble_eq_true rfl) rfl set11 ?_
  refine V_aload h (dk dd_L_hits_0 15 rfl) get9 ?_
  refine V_iconst h (dk dd_L_hits_0 16 rfl) ?_
  refine V_iload_n h (dk dd_L_hits_0 17 rfl) rfl get1 ?_
  refine V_i2l h (dk dd_L_hits_0 18 rfl) (by omega) ?_
  refine V_last h 1 get1 (by omega) set1 (dk dd_L_hits_0 19 rfl) ?_
  refine V_iconst h (dk dd_L_hits_0 20 rfl) ?_
  refine V_istore h (dk dd_L_hits_0 21 rfl) (Nat.le_of_ble_eq_true rfl) rfl set12 ?_
  have L36 : ∀ (fu : Nat) (i last sum seen : Int) (pl tm : Int → Int), HL Nn p0 m nh i last sum seen (pl 0) (tm 0) → (nh - i).toNat < fu → V K (2, 128) 36 [some (.ref x), some (.int (iZ p0)), some (.int (iZ s0)), some (.int (iZ e0)), some (.int (iZ nh)), some (.long (lZ last)), none, some (.long (lZ sum)), none, some (.ref n14), some (.ref n20), some (.int (iZ seen)), some (.int (iZ i)), none, none, none, none, none, none, none, none] [] [(n20, .inl (G.2 1, 64, .inr (.inl (lF tm)))), (n14, .inl (G.2 1, 64, .inr (.inl (lF pl)))), (x, .inr (10, [.ref w, .ref hi, .ref tx, .ref sh])), (sh, .inr (7, [.ref rr, .ref lo, .ref mk, .ref ea, .ref pt, .int (iZ m)])), (lo, .inr (2, [.ref lb, .ref lc, .int (iZ nh), .int (iZ ec), .long (lZ es)])), (lb, .inl (G.2 1, 3000, .inr (.inl (lF Nn)))), (lc, .inl (G.2 0, 600, .inl (iF Ec)))] := by
    intro fu
    induction fu with
    | zero => intro i last sum seen pl tm _ hm; exact absurd hm (Nat.not_lt_zero _)
    | succ fu ih36 =>
      intro i last sum seen pl tm hI36 hm36
      have hi0 := hI36.1
      refine V_iload h (dk dd_L_hits_0 22 rfl) get12 ?_
      refine V_iload h (dk dd_L_hits_0 23 rfl) get4 ?_
      refine V_icmp_ge (tgt := 292) h (dk dd_L_hits_0 24 rfl) rfl (by omega) (fun c40 => ?_) (fun c40 => ?_)
      · have hHL := hI36
        obtain ⟨⟨h1, h2⟩, ⟨h3, h3a, h3b⟩, ⟨h4, h4a, h4b⟩, h7, h8, h9, h10, h11⟩ := hI36
        have e9 : i = nh := by omega
        subst e9
        have hk := hOK 0 (by omega) (by omega)
        obtain ⟨-, -, -, ⟨k4, k4b⟩, -, -, -, k8⟩ := hk
        have k8 := (k8 rfl).2.2
        refine V_iload h (dk dd_L_hits_3 10 rfl) get4 ?_
        refine V_if_ne (tgt := 301) h (dk dd_L_hits_3 11 rfl) rfl (by omega) (fun c294 => ?_) (fun c294 => ?_)
        · refine V_lload h (dk dd_L_hits_3 14 rfl) get7 ?_
          refine V_l2f h (dk dd_L_hits_3 15 rfl) ?_
          refine V_iload h (dk dd_L_hits_3 16 rfl) get4 ?_
          refine V_i2f h (dk dd_L_hits_3 17 rfl) ?_
          refine V_fdiv h (dk dd_L_hits_3 18 rfl) (div_ok (by omega)) ?_
          refine V_fstore h (dk dd_L_hits_3 19 rfl) (Nat.le_of_ble_eq_true rfl) rfl set12 ?_
          refine V_iload h (dk dd_L_hits_3 20 rfl) get4 ?_
          refine V_sipush h (dk dd_L_hits_3 21 rfl) (by decide) ?_
          refine V_icmp_gt (tgt := 368) h (dk dd_L_hits_3 22 rfl) rfl (by omega) (fun c315 => ?_) (fun c315 => ?_)
          · exfalso; omega
          · refine V_iload h (dk dd_L_hits_3 23 rfl) get4 ?_
            refine V_iconst h (dk dd_L_hits_3 24 rfl) ?_
            refine V_icmp_lt (tgt := 368) h (dk dd_L_hits_3 25 rfl) rfl (by omega) (fun c321 => ?_) (fun c321 => ?_)
            · exfalso; omega
            · refine V_iload h (dk dd_L_hits_3 26 rfl) get11 ?_
              refine V_aload_n h (dk dd_L_hits_3 27 rfl) rfl get0 ?_
              refine V_callVc h st1 ci_L_87 (pk_c get2 (pk_c get3 pk_n)) rfl 2 get2 (m_X11_rays l G _ _ _ _ _ _ _ _ _ _ _ ) rfl rfl rfl (by decide) (Nat.le_of_ble_eq_true rfl) ⟨rfl, rfl⟩ ⟨Nat.le_of_ble_eq_true rfl, Nat.le_of_ble_eq_true rfl⟩ (dk dd_L_hits_3 28 rfl) sk1 (sm_c set2 (sm_c set3 sm_n)) ?_
              refine V_icmp_gt (tgt := 368) h (dk dd_L_hits_3 29 rfl) rfl (by omega) (fun c330 => ?_) (fun c330 => ?_)
              · exfalso; omega
              · refine V_aload_n h (dk dd_L_hits_3 30 rfl) rfl get0 ?_
                refine V_callVc h st1 ci_L_87 (pk_c get2 (pk_c get3 pk_n)) rfl 2 get2 (m_X11_rays l G _ _ _ _ _ _ _ _ _ _ _ ) rfl rfl rfl (by decide) (Nat.le_of_ble_eq_true rfl) ⟨rfl, rfl⟩ ⟨Nat.le_of_ble_eq_true rfl, Nat.le_of_ble_eq_true rfl⟩ (dk dd_L_hits_3 31 rfl) sk1 (sm_c set2 (sm_c set3 sm_n)) ?_
                refine V_bipush h (dk dd_L_hits_3 32 rfl) (by decide) ?_
                refine V_icmp_gt (tgt := 368) h (dk dd_L_hits_3 33 rfl) rfl (by omega) (fun c339 => ?_) (fun c339 => ?_)
                · exfalso; omega
                · refine V_aload_n h (dk dd_L_hits_3 34 rfl) rfl get0 ?_
                  refine V_callVc h st1 ci_L_90 (pk_c get2 (pk_c get3 (pk_c get4 (pk_c get5 (pk_c get6 pk_n))))) rfl 2 get2 (m_X11_mean l G _ _ _ _ _ _ _ _ _ _ _ _ _ _ _ _ _ _ (by omega)) rfl rfl rfl (by decide) (Nat.le_of_ble_eq_true rfl) ⟨rfl, rfl⟩ ⟨Nat.le_of_ble_eq_true rfl, Nat.le_of_ble_eq_true rfl⟩ (dk dd_L_hits_3 35 rfl) sk1 (sm_c set2 (sm_c set3 (sm_c set4 (sm_c set5 (sm_c set6 sm_n))))) ?_
                  have hmean : meanV es i = FP.fdiv (FP.l2f (lZ sum)) (FP.i2f (iZ i)) := by
                    unfold meanV
                    rw [if_neg (by omega), hes, ← h4]
                  rw [hmean]
                  refine V_fload h (dk dd_L_hits_3 36 rfl) get12 ?_
                  refine V_fcmp_same h (div_ok (by omega)) (dk dd_L_hits_3 37 rfl) ?_
                  refine V_if_ne (tgt := 368) h (dk dd_L_hits_3 38 rfl) rfl (by omega) (fun c349 => ?_) (fun c349 => ?_)
                  · exfalso; omega
                  · refine V_aload_n h (dk dd_L_hits_3 39 rfl) rfl get0 ?_
                    refine V_iconst h (dk dd_L_hits_3 40 rfl) ?_
                    refine V_iconst h (dk dd_L_hits_3 41 rfl) ?_
                    refine V_callVc h st3 ci_L_47 (pk_c get2 (pk_c get3 (pk_c get4 (pk_c get5 (pk_c get6 pk_n))))) rfl 2 get2 (m_hit_in l G _ _ _ _ _ _ _ _ _ _ _ _ _ _ _ _ _ _ _ _ (by omega) (by omega) (by omega)) rfl rfl rfl (by decide) (Nat.le_of_ble_eq_true rfl) ⟨rfl, rfl⟩ ⟨Nat.le_of_ble_eq_true rfl, Nat.le_of_ble_eq_true rfl⟩ (dk dd_L_hits_3 42 rfl) sk1 (sm_c set2 (sm_c set3 (sm_c set4 (sm_c set5 (sm_c set6 sm_n))))) ?_
                    refine V_iload_n h (dk dd_L_hits_3 43 rfl) rfl get3 ?_
                    refine V_i2l h (dk dd_L_hits_3 44 rfl) (by omega) ?_
                    refine V_lcmp_ne (tgt := 368) h (dk dd_L_hits_3 45 rfl) (dk dd_L_hits_3 46 rfl) rfl (by omega) (fun c360 => ?_) (fun c360 => ?_)
                    · exfalso; omega
                    · refine V_iconst h (dk dd_L_hits_3 47 rfl) ?_
                      refine V_goto (tgt := 369) h (dk dd_L_hits_3 48 rfl) rfl ?_
                      refine V_perm (is := [2, 3, 4, 5, 6]) (pk_c get2 (pk_c get3 (pk_c get4 (pk_c get5 (pk_c get6 pk_n))))) rfl ?_
                      refine V_zret h hF (dk dd_L_hits_4 0 rfl) ⟨Nat.le_of_ble_eq_true rfl, Nat.le_of_ble_eq_true rfl⟩ (by first | exact Or.inr rfl | exact Or.inl rfl | exact bZ_01 | omega) ?_
                      exact det_i rfl rfl
        · exfalso; omega
      · have hHL := hI36
        obtain ⟨⟨h1, h2⟩, ⟨h3, h3a, h3b⟩, ⟨h4, h4a, h4b⟩, h7, h8, h9, h10, h11⟩ := hI36
        have hk := hOK i h1 (by omega)
        have hk2 := hk
        obtain ⟨⟨k1, k1b⟩, ⟨k2, k2b⟩, ⟨k3, k3b⟩, ⟨k4, k4b⟩, k5, k6, k7, k8⟩ := hk2
        have hch := chord_nn k5
        have k5a := k5.1
        have k5b := k5.2.1
        have k5c := k5.2.2
        have hlt : lastT Nn i ≤ Nn (i * 5 + 2) := by
          unfold lastT
          split
          · omega
          · exact k6 (by omega)
        refine V_aload_n h (dk dd_L_hits_0 25 rfl) rfl get0 ?_
        refine V_iload h (dk dd_L_hits_0 26 rfl) get12 ?_
        refine V_iconst h (dk dd_L_hits_0 27 rfl) ?_
        refine V_callVc h st3 ci_L_47 (pk_c get2 (pk_c get3 (pk_c get4 (pk_c get5 (pk_c get6 pk_n))))) rfl 2 get2 (m_hit_in l G _ _ _ _ _ _ _ _ _ _ _ _ _ _ _ _ _ _ _ _ (by omega) (by omega) (by omega)) rfl rfl rfl (by decide) (Nat.le_of_ble_eq_true rfl) ⟨rfl, rfl⟩ ⟨Nat.le_of_ble_eq_true rfl, Nat.le_of_ble_eq_true rfl⟩ (dk dd_L_hits_0 28 rfl) sk1 (sm_c set2 (sm_c set3 (sm_c set4 (sm_c set5 (sm_c set6 sm_n))))) ?_
        rw [Int.add_zero]
        refine V_l2i h (dk dd_L_hits_0 29 rfl) ?_
        refine V_istore h (dk dd_L_hits_0 30 rfl) (Nat.le_of_ble_eq_true rfl) rfl set13 ?_
        refine V_aload_n h (dk dd_L_hits_0 31 rfl) rfl get0 ?_
        refine V_iload h (dk dd_L_hits_0 32 rfl) get12 ?_
        refine V_iconst h (dk dd_L_hits_0 33 rfl) ?_
        refine V_callVc h st3 ci_L_47 (pk_c get2 (pk_c get3 (pk_c get4 (pk_c get5 (pk_c get6 pk_n))))) rfl 2 get2 (m_hit_in l G _ _ _ _ _ _ _ _ _ _ _ _ _ _ _ _ _ _ _ _ (by omega) (by omega) (by omega)) rfl rfl rfl (by decide) (Nat.le_of_ble_eq_true rfl) ⟨rfl, rfl⟩ ⟨Nat.le_of_ble_eq_true rfl, Nat.le_of_ble_eq_true rfl⟩ (dk dd_L_hits_0 34 rfl) sk1 (sm_c set2 (sm_c set3 (sm_c set4 (sm_c set5 (sm_c set6 sm_n))))) ?_
        refine V_lstore h (dk dd_L_hits_0 35 rfl) (Nat.le_of_ble_eq_true rfl) rfl set14 set15 ?_
        refine V_aload_n h (dk dd_L_hits_0 36 rfl) rfl get0 ?_
        refine V_iload h (dk dd_L_hits_0 37 rfl) get12 ?_
        refine V_iconst h (dk dd_L_hits_0 38 rfl) ?_
        refine V_callVc h st3 ci_L_47 (pk_c get2 (pk_c get3 (pk_c get4 (pk_c get5 (pk_c get6 pk_n))))) rfl 2 get2 (m_hit_in l G _ _ _ _ _ _ _ _ _ _ _ _ _ _ _ _ _ _ _ _ (by omega) (by omega) (by omega)) rfl rfl rfl (by decide) (Nat.le_of_ble_eq_true rfl) ⟨rfl, rfl⟩ ⟨Nat.le_of_ble_eq_true rfl, Nat.le_of_ble_eq_true rfl⟩ (dk dd_L_hits_0 39 rfl) sk1 (sm_c set2 (sm_c set3 (sm_c set4 (sm_c set5 (sm_c set6 sm_n))))) ?_
        refine V_lstore h (dk dd_L_hits_0 40 rfl) (Nat.le_of_ble_eq_true rfl) rfl set16 set17 ?_
        refine V_aload_n h (dk dd_L_hits_0 41 rfl) rfl get0 ?_
        refine V_iload h (dk dd_L_hits_0 42 rfl) get12 ?_
        refine V_iconst h (dk dd_L_hits_0 43 rfl) ?_
        refine V_callVc h st3 ci_L_47 (pk_c get2 (pk_c get3 (pk_c get4 (pk_c get5 (pk_c get6 pk_n))))) rfl 2 get2 (m_hit_in l G _ _ _ _ _ _ _ _ _ _ _ _ _ _ _ _ _ _ _ _ (by omega) (by omega) (by omega)) rfl rfl rfl (by decide) (Nat.le_of_ble_eq_true rfl) ⟨rfl, rfl⟩ ⟨Nat.le_of_ble_eq_true rfl, Nat.le_of_ble_eq_true rfl⟩ (dk dd_L_hits_0 44 rfl) sk1 (sm_c set2 (sm_c set3 (sm_c set4 (sm_c set5 (sm_c set6 sm_n))))) ?_
        refine V_lstore h (dk dd_L_hits_0 45 rfl) (Nat.le_of_ble_eq_true rfl) rfl set18 set19 ?_
        refine V_aload_n h (dk dd_L_hits_0 46 rfl) rfl get0 ?_
        refine V_iload h (dk dd_L_hits_0 47 rfl) get12 ?_
        refine V_iconst h (dk dd_L_hits_0 48 rfl) ?_
        refine V_callVc h st3 ci_L_47 (pk_c get2 (pk_c get3 (pk_c get4 (pk_c get5 (pk_c get6 pk_n))))) rfl 2 get2 (m_hit_in l G _ _ _ _ _ _ _ _ _ _ _ _ _ _ _ _ _ _ _ _ (by omega) (by omega) (by omega)) rfl rfl rfl (by decide) (Nat.le_of_ble_eq_true rfl) ⟨rfl, rfl⟩ ⟨Nat.le_of_ble_eq_true rfl, Nat.le_of_ble_eq_true rfl⟩ (dk dd_L_hits_0 49 rfl) sk1 (sm_c set2 (sm_c set3 (sm_c set4 (sm_c set5 (sm_c set6 sm_n))))) ?_
        refine V_l2i h (dk dd_L_hits_1 0 rfl) ?_
        refine V_istore h (dk dd_L_hits_1 1 rfl) (Nat.le_of_ble_eq_true rfl) rfl set20 ?_
        refine V_lload h (dk dd_L_hits_1 2 rfl) get16 ?_
        refine V_lload h (dk dd_L_hits_1 3 rfl) get5 ?_
        refine V_lcmp_lt (tgt := 161) h (dk dd_L_hits_1 4 rfl) (dk dd_L_hits_1 5 rfl) rfl (by omega) (fun c94 => ?_) (fun c94 => ?_)
        · exfalso; omega
        · refine V_lload h (dk dd_L_hits_1 6 rfl) get18 ?_
          refine V_iload_n h (dk dd_L_hits_1 7 rfl) rfl get3 ?_
          refine V_i2l h (dk dd_L_hits_1 8 rfl) (by omega) ?_
          refine V_lcmp_gt (tgt := 161) h (dk dd_L_hits_1 9 rfl) (dk dd_L_hits_1 10 rfl) rfl (by omega) (fun c102 => ?_) (fun c102 => ?_)
          · exfalso; omega
          · refine V_lload h (dk dd_L_hits_1 11 rfl) get18 ?_
            refine V_lconst0 h (dk dd_L_hits_1 12 rfl) ?_
            refine V_lcmp_lt (tgt := 161) h (dk dd_L_hits_1 13 rfl) (dk dd_L_hits_1 14 rfl) rfl (by omega) (fun c109 => ?_) (fun c109 => ?_)
            · exfalso; omega
            · refine V_lload h (dk dd_L_hits_1 15 rfl) get14 ?_
              refine V_lconst0 h (dk dd_L_hits_1 16 rfl) ?_
              refine V_lcmp_lt (tgt := 161) h (dk dd_L_hits_1 17 rfl) (dk dd_L_hits_1 18 rfl) rfl (by omega) (fun c116 => ?_) (fun c116 => ?_)
              · exfalso; omega
              · refine V_lload h (dk dd_L_hits_1 19 rfl) get14 ?_
                refine V_ldc2 h q3_144 (dk dd_L_hits_1 20 rfl) ?_
                refine V_lcmp_ge (tgt := 161) h (dk dd_L_hits_1 21 rfl) (dk dd_L_hits_1 22 rfl) rfl (by omega) (fun c125 => ?_) (fun c125 => ?_)
                · exfalso; omega
                · refine V_iload h (dk dd_L_hits_1 23 rfl) get13 ?_
                  refine V_if_lt (tgt := 161) h (dk dd_L_hits_1 24 rfl) rfl (by omega) (fun c131 => ?_) (fun c131 => ?_)
                  · exfalso; omega
                  · refine V_iload h (dk dd_L_hits_1 25 rfl) get13 ?_
                    refine V_aload_n h (dk dd_L_hits_1 26 rfl) rfl get0 ?_
                    refine V_callVc h st1 ci_L_87 (pk_c get2 (pk_c get3 pk_n)) rfl 2 get2 (m_X11_rays l G _ _ _ _ _ _ _ _ _ _ _ ) rfl rfl rfl (by decide) (Nat.le_of_ble_eq_true rfl) ⟨rfl, rfl⟩ ⟨Nat.le_of_ble_eq_true rfl, Nat.le_of_ble_eq_true rfl⟩ (dk dd_L_hits_1 27 rfl) sk1 (sm_c set2 (sm_c set3 sm_n)) ?_
                    refine V_icmp_ge (tgt := 161) h (dk dd_L_hits_1 28 rfl) rfl (by omega) (fun c140 => ?_) (fun c140 => ?_)
                    · exfalso; omega
                    · refine V_iload h (dk dd_L_hits_1 29 rfl) get20 ?_
                      refine V_if_eq (tgt := 161) h (dk dd_L_hits_1 30 rfl) rfl (by omega) (fun c145 => ?_) (fun c145 => ?_)
                      · exfalso; omega
                      · refine V_lload h (dk dd_L_hits_1 31 rfl) get16 ?_
                        refine V_aload_n h (dk dd_L_hits_1 32 rfl) rfl get0 ?_
                        refine V_iload h (dk dd_L_hits_1 33 rfl) get20 ?_
                        refine V_callVc h st2 ci_L_63 pk_n rfl 2 get2 (m_time_in l G _ _ (k5)) rfl rfl rfl (by decide) (Nat.le_of_ble_eq_true rfl) ⟨rfl, rfl⟩ ⟨Nat.le_of_ble_eq_true rfl, Nat.le_of_ble_eq_true rfl⟩ (dk dd_L_hits_1 34 rfl) sk1 sm_n ?_
                        refine V_i2l h (dk dd_L_hits_1 35 rfl) (by omega) ?_
                        refine V_lcmp_ge (tgt := 163) h (dk dd_L_hits_1 36 rfl) (dk dd_L_hits_1 37 rfl) rfl (by omega) (fun c157 => ?_) (fun c157 => ?_)
                        · have J221 : True → V K (2, 128) 221 [some (.ref x), some (.int (iZ p0)), some (.int (iZ s0)), some (.int (iZ e0)), some (.int (iZ nh)), some (.long (lZ last)), none, some (.long (lZ sum)), none, some (.ref n14), some (.ref n20), some (.int (iZ seen)), some (.int (iZ i)), some (.int (iZ (Nn (i * 5)))), some (.long (lZ (Nn (i * 5 + 1)))), none, some (.long (lZ (Nn (i * 5 + 2)))), none, some (.long (lZ (Nn (i * 5 + 3)))), none, some (.int (iZ (Nn (i * 5 + 4))))] [] [(n20, .inl (G.2 1, 64, .inr (.inl (lF tm)))), (n14, .inl (G.2 1, 64, .inr (.inl (lF pl)))), (x, .inr (10, [.ref w, .ref hi, .ref tx, .ref sh])), (sh, .inr (7, [.ref rr, .ref lo, .ref mk, .ref ea, .ref pt, .int (iZ m)])), (lo, .inr (2, [.ref lb, .ref lc, .int (iZ nh), .int (iZ ec), .long (lZ es)])), (lb, .inl (G.2 1, 3000, .inr (.inl (lF Nn)))), (lc, .inl (G.2 0, 600, .inl (iF Ec)))] := by
                            intro  hJ221
                            refine V_aload h (dk dd_L_hits_2 23 rfl) get9 ?_
                            refine V_iconst h (dk dd_L_hits_2 24 rfl) ?_
                            refine V_iload h (dk dd_L_hits_2 25 rfl) get13 ?_
                            refine V_if_ne (tgt := 234) h (dk dd_L_hits_2 26 rfl) rfl (by omega) (fun c226 => ?_) (fun c226 => ?_)
                            · refine V_aload h (dk dd_L_hits_2 29 rfl) get9 ?_
                              refine V_iconst h (dk dd_L_hits_2 30 rfl) ?_
                              refine V_lald h 1 get1 (by omega) (dk dd_L_hits_2 31 rfl) ?_
                              refine V_last h 1 get1 (by omega) set1 (dk dd_L_hits_2 32 rfl) ?_
                              refine V_aload h (dk dd_L_hits_2 33 rfl) get10 ?_
                              refine V_iconst h (dk dd_L_hits_2 34 rfl) ?_
                              refine V_iload h (dk dd_L_hits_2 35 rfl) get13 ?_
                              refine V_if_ne (tgt := 252) h (dk dd_L_hits_2 36 rfl) rfl (by omega) (fun c244 => ?_) (fun c244 => ?_)
                              · refine V_aload h (dk dd_L_hits_2 39 rfl) get10 ?_
                                refine V_iconst h (dk dd_L_hits_2 40 rfl) ?_
                                refine V_lald h 0 get0 (by omega) (dk dd_L_hits_2 41 rfl) ?_
                                refine V_last h 0 get0 (by omega) set0 (dk dd_L_hits_2 42 rfl) ?_
                                refine V_lload h (dk dd_L_hits_2 43 rfl) get16 ?_
                                refine V_lstore h (dk dd_L_hits_2 44 rfl) (Nat.le_of_ble_eq_true rfl) rfl set5 set6 ?_
                                refine V_lload h (dk dd_L_hits_2 45 rfl) get7 ?_
                                refine V_lload h (dk dd_L_hits_2 46 rfl) get18 ?_
                                refine V_ladd h (dk dd_L_hits_2 47 rfl) ?_
                                refine V_lstore h (dk dd_L_hits_2 48 rfl) (Nat.le_of_ble_eq_true rfl) rfl set7 set8 ?_
                                refine V_iload h (dk dd_L_hits_2 49 rfl) get13 ?_
                                refine V_iload h (dk dd_L_hits_3 0 rfl) get11 ?_
                                refine V_icmp_lt (tgt := 282) h (dk dd_L_hits_3 1 rfl) rfl (by omega) (fun c272 => ?_) (fun c272 => ?_)
                                · refine V_iload h (dk dd_L_hits_3 6 rfl) get11 ?_
                                  refine V_istore h (dk dd_L_hits_3 7 rfl) (Nat.le_of_ble_eq_true rfl) rfl set11 ?_
                                  refine V_iinc h (dk dd_L_hits_3 8 rfl) get12 (Nat.le_of_ble_eq_true rfl) rfl set12 ?_
                                  refine V_goto (tgt := 36) h (dk dd_L_hits_3 9 rfl) rfl ?_
                                  refine V_wk (lw_s (lw_s (lw_s (lw_s (lw_s (lw_s (lw_s (lw_s (lw_s (lw_s (lw_s (lw_s (lw_s (lw_o (lw_o (lw_s (lw_o (lw_s (lw_o (lw_s (lw_o lw_n))))))))))))))))))))) ?_
                                  exact ih36 _ _ _ _ _ _ (by rw [zup_s, zup_s]; have q := hl_s (seen' := seen) hHL (by omega) hk he0.2 (by omega); rwa [if_neg (by omega), if_neg (by omega)] at q) (by omega)
                                · refine V_iload h (dk dd_L_hits_3 2 rfl) get13 ?_
                                  refine V_iconst h (dk dd_L_hits_3 3 rfl) ?_
                                  refine V_iadd h (dk dd_L_hits_3 4 rfl) ?_
                                  refine V_goto (tgt := 284) h (dk dd_L_hits_3 5 rfl) rfl ?_
                                  refine V_istore h (dk dd_L_hits_3 7 rfl) (Nat.le_of_ble_eq_true rfl) rfl set11 ?_
                                  refine V_iinc h (dk dd_L_hits_3 8 rfl) get12 (Nat.le_of_ble_eq_true rfl) rfl set12 ?_
                                  refine V_goto (tgt := 36) h (dk dd_L_hits_3 9 rfl) rfl ?_
                                  refine V_wk (lw_s (lw_s (lw_s (lw_s (lw_s (lw_s (lw_s (lw_s (lw_s (lw_s (lw_s (lw_s (lw_s (lw_o (lw_o (lw_s (lw_o (lw_s (lw_o (lw_s (lw_o lw_n))))))))))))))))))))) ?_
                                  exact ih36 _ _ _ _ _ _ (by rw [zup_s, zup_s]; have q := hl_s (seen' := (Nn (i * 5) + 1)) hHL (by omega) hk he0.2 (by omega); rwa [if_neg (by omega), if_neg (by omega)] at q) (by omega)
                              · exfalso; omega
                            · refine V_lload h (dk dd_L_hits_2 27 rfl) get14 ?_
                              refine V_goto (tgt := 238) h (dk dd_L_hits_2 28 rfl) rfl ?_
                              refine V_last h 1 get1 (by omega) set1 (dk dd_L_hits_2 32 rfl) ?_
                              refine V_aload h (dk dd_L_hits_2 33 rfl) get10 ?_
                              refine V_iconst h (dk dd_L_hits_2 34 rfl) ?_
                              refine V_iload h (dk dd_L_hits_2 35 rfl) get13 ?_
                              refine V_if_ne (tgt := 252) h (dk dd_L_hits_2 36 rfl) rfl (by omega) (fun c244_2 => ?_) (fun c244_2 => ?_)
                              · exfalso; omega
                              · refine V_lload h (dk dd_L_hits_2 37 rfl) get16 ?_
                                refine V_goto (tgt := 256) h (dk dd_L_hits_2 38 rfl) rfl ?_
                                refine V_last h 0 get0 (by omega) set0 (dk dd_L_hits_2 42 rfl) ?_
                                refine V_lload h (dk dd_L_hits_2 43 rfl) get16 ?_
                                refine V_lstore h (dk dd_L_hits_2 44 rfl) (Nat.le_of_ble_eq_true rfl) rfl set5 set6 ?_
                                refine V_lload h (dk dd_L_hits_2 45 rfl) get7 ?_
                                refine V_lload h (dk dd_L_hits_2 46 rfl) get18 ?_
                                refine V_ladd h (dk dd_L_hits_2 47 rfl) ?_
                                refine V_lstore h (dk dd_L_hits_2 48 rfl) (Nat.le_of_ble_eq_true rfl) rfl set7 set8 ?_
                                refine V_iload h (dk dd_L_hits_2 49 rfl) get13 ?_
                                refine V_iload h (dk dd_L_hits_3 0 rfl) get11 ?_
                                refine V_icmp_lt (tgt := 282) h (dk dd_L_hits_3 1 rfl) rfl (by omega) (fun c272_2 => ?_) (fun c272_2 => ?_)
                                · refine V_iload h (dk dd_L_hits_3 6 rfl) get11 ?_
                                  refine V_istore h (dk dd_L_hits_3 7 rfl) (Nat.le_of_ble_eq_true rfl) rfl set11 ?_
                                  refine V_iinc h (dk dd_L_hits_3 8 rfl) get12 (Nat.le_of_ble_eq_true rfl) rfl set12 ?_
                                  refine V_goto (tgt := 36) h (dk dd_L_hits_3 9 rfl) rfl ?_
                                  refine V_wk (lw_s (lw_s (lw_s (lw_s (lw_s (lw_s (lw_s (lw_s (lw_s (lw_s (lw_s (lw_s (lw_s (lw_o (lw_o (lw_s (lw_o (lw_s (lw_o (lw_s (lw_o lw_n))))))))))))))))))))) ?_
                                  exact ih36 _ _ _ _ _ _ (by rw [zup_s, zup_s]; have q := hl_s (seen' := seen) hHL (by omega) hk he0.2 (by omega); rwa [if_pos (by omega), if_pos (by omega)] at q) (by omega)
                                · refine V_iload h (dk dd_L_hits_3 2 rfl) get13 ?_
                                  refine V_iconst h (dk dd_L_hits_3 3 rfl) ?_
                                  refine V_iadd h (dk dd_L_hits_3 4 rfl) ?_
                                  refine V_goto (tgt := 284) h (dk dd_L_hits_3 5 rfl) rfl ?_
                                  refine V_istore h (dk dd_L_hits_3 7 rfl) (Nat.le_of_ble_eq_true rfl) rfl set11 ?_
                                  refine V_iinc h (dk dd_L_hits_3 8 rfl) get12 (Nat.le_of_ble_eq_true rfl) rfl set12 ?_
                                  refine V_goto (tgt := 36) h (dk dd_L_hits_3 9 rfl) rfl ?_
                                  refine V_wk (lw_s (lw_s (lw_s (lw_s (lw_s (lw_s (lw_s (lw_s (lw_s (lw_s (lw_s (lw_s (lw_s (lw_o (lw_o (lw_s (lw_o (lw_s (lw_o (lw_s (lw_o lw_n))))))))))))))))))))) ?_
                                  exact ih36 _ _ _ _ _ _ (by rw [zup_s, zup_s]; have q := hl_s (seen' := (Nn (i * 5) + 1)) hHL (by omega) hk he0.2 (by omega); rwa [if_pos (by omega), if_pos (by omega)] at q) (by omega)
                          refine V_iload h (dk dd_L_hits_1 40 rfl) get13 ?_
                          refine V_if_ne (tgt := 221) h (dk dd_L_hits_1 41 rfl) rfl (by omega) (fun c165 => ?_) (fun c165 => ?_)
                          · exact J221 (trivial)
                          · have k9 := k7 c165
                            refine V_lload h (dk dd_L_hits_1 42 rfl) get16 ?_
                            refine V_aload h (dk dd_L_hits_1 43 rfl) get10 ?_
                            refine V_iconst h (dk dd_L_hits_1 44 rfl) ?_
                            refine V_lald h 0 get0 (by omega) (dk dd_L_hits_1 45 rfl) ?_
                            refine V_aload_n h (dk dd_L_hits_1 46 rfl) rfl get0 ?_
                            refine V_iload h (dk dd_L_hits_1 47 rfl) get20 ?_
                            refine V_callVc h st2 ci_L_63 pk_n rfl 2 get2 (m_time_in l G _ _ (k5)) rfl rfl rfl (by decide) (Nat.le_of_ble_eq_true rfl) ⟨rfl, rfl⟩ ⟨Nat.le_of_ble_eq_true rfl, Nat.le_of_ble_eq_true rfl⟩ (dk dd_L_hits_1 48 rfl) sk1 sm_n ?_
                            refine V_i2l h (dk dd_L_hits_1 49 rfl) (by omega) ?_
                            refine V_ladd h (dk dd_L_hits_2 0 rfl) ?_
                            refine V_lcmp_ne (tgt := 219) h (dk dd_L_hits_2 1 rfl) (dk dd_L_hits_2 2 rfl) rfl (by omega) (fun c182 => ?_) (fun c182 => ?_)
                            · exfalso; omega
                            · refine V_lload h (dk dd_L_hits_2 3 rfl) get14 ?_
                              refine V_aload h (dk dd_L_hits_2 4 rfl) get9 ?_
                              refine V_iconst h (dk dd_L_hits_2 5 rfl) ?_
                              refine V_lald h 1 get1 (by omega) (dk dd_L_hits_2 6 rfl) ?_
                              refine V_iload h (dk dd_L_hits_2 7 rfl) get20 ?_
                              refine V_i2l h (dk dd_L_hits_2 8 rfl) (by omega) ?_
                              refine V_ladd h (dk dd_L_hits_2 9 rfl) ?_
                              refine V_ldc2 h q3_144 (dk dd_L_hits_2 10 rfl) ?_
                              refine V_ladd h (dk dd_L_hits_2 11 rfl) ?_
                              refine V_ldc2 h q3_144 (dk dd_L_hits_2 12 rfl) ?_
                              refine V_lremP h (dk dd_L_hits_2 13 rfl) (by omega) ?_
                              refine V_lcmp_ne (tgt := 219) h (dk dd_L_hits_2 14 rfl) (dk dd_L_hits_2 15 rfl) rfl (by omega) (fun c204 => ?_) (fun c204 => ?_)
                              · exfalso; omega
                              · refine V_iload h (dk dd_L_hits_2 16 rfl) get12 ?_
                                refine V_if_ne (tgt := 221) h (dk dd_L_hits_2 17 rfl) rfl (by omega) (fun c210 => ?_) (fun c210 => ?_)
                                · exact J221 (trivial)
                                · refine V_iload h (dk dd_L_hits_2 18 rfl) get20 ?_
                                  refine V_iload_n h (dk dd_L_hits_2 19 rfl) rfl get2 ?_
                                  refine V_icmp_eq (tgt := 221) h (dk dd_L_hits_2 20 rfl) rfl (by omega) (fun c216 => ?_) (fun c216 => ?_)
                                  · exact J221 (trivial)
                                  · exfalso; omega
                        · exfalso; omega
  exact L36 _ 0 0 0 1 (zup z0 0 p0) z0 (by rw [zup_s]; exact hl_0 (by omega) hm.1 hp0) (Nat.lt_succ_self _)

set_option maxHeartbeats 4000000 in
set_option maxRecDepth 100000 in
theorem m_L_heard (l : Launch) (G : GT) (x w hi tx sh pw aw rr lo mk ea pt lb lc eb : Nat) (m n lo2 z nh ec es t0 e0 B : Int) (f Nn Ec A : Int → Int) (hE : EarOK n t0 e0 f nh B (A, ec, Ec)) (hB : B ≤ 7200) (hec : 0 ≤ ec ∧ ec ≤ 600) (hh : 1 ≤ nh ∧ nh ≤ 600) (hn : 0 ≤ n ∧ n ≤ 12) (ht0 : Nn (0 * 5 + 2) = t0 ∧ 0 ≤ t0 ∧ t0 ≤ 2000000) (hA : ∀ j, 0 ≤ j → j < 48 → -100009 ≤ A j ∧ A j ≤ 11200000000) (he0 : e0 ≤ 1000000) (hEc : ∀ j, 0 ≤ j → j < ec → R32 (Ec j)) : Ctr l G yL_heard cL_heard 8 (Option.some FieldType.boolean) (rmO 3 0 0 65) [.ref x, .int (iZ n)] [(x, .inr (10, [.ref w, .ref hi, .ref tx, .ref sh])), (w, .inr (9, [.ref pw, .int (iZ lo2), .int (iZ z)])), (pw, .inr (3, [.ref aw, .int (iZ n)])), (aw, .inl (G.2 0, 48, .inl (iF f))), (sh, .inr (7, [.ref rr, .ref lo, .ref mk, .ref ea, .ref pt, .int (iZ m)])), (lo, .inr (2, [.ref lb, .ref lc, .int (iZ nh), .int (iZ ec), .long (lZ es)])), (lb, .inl (G.2 1, 3000, .inr (.inl (lF Nn)))), (lc, .inl (G.2 0, 600, .inl (iF Ec))), (ea, .inr (0, [.ref eb])), (eb, .inl (G.2 1, 48, .inr (.inl (lF A))))] (Det (some (.int (iZ 1))) [(x, .inr (10, [.ref w, .ref hi, .ref tx, .ref sh])), (w, .inr (9, [.ref pw, .int (iZ lo2), .int (iZ z)])), (pw, .inr (3, [.ref aw, .int (iZ n)])), (aw, .inl (G.2 0, 48, .inl (iF f))), (sh, .inr (7, [.ref rr, .ref lo, .ref mk, .ref ea, .ref pt, .int (iZ m)])), (lo, .inr (2, [.ref lb, .ref lc, .int (iZ nh), .int (iZ ec), .long (lZ es)])), (lb, .inl (G.2 1, 3000, .inr (.inl (lF Nn)))), (lc, .inl (G.2 0, 600, .inl (iF Ec))), (ea, .inr (0, [.ref eb])), (eb, .inl (G.2 1, 48, .inr (.inl (lF A))))]) := by
  refine Ctr.go (own := RL) (nm := "heard") (by decide +kernel) rfl rfl [some (.ref x), some (.int (iZ n)), none, none, none, none, none, none] 6 rfl rfl (Nat.le_of_ble_eq_true rfl) ?_
  intro K h hF
  obtain ⟨g1, g2, g3, g4, g5, g6, g7⟩ := hE
  dsimp only at g1 g2 g3 g4 g5 g6 g7
  obtain ⟨ht0a, ht0b, ht0c⟩ := ht0
  have hsn := sumA_nn (A := A) (fun p a b => (g1 p a b).1) 12 (by decide)
  refine V_iconst h (dk dd_L_heard_0 0 rfl) ?_
  refine V_istore_n h (dk dd_L_heard_0 1 rfl) rfl (Nat.le_of_ble_eq_true rfl) rfl set2 ?_
  have L2 : ∀ (fu : Nat) (e : Int), 0 ≤ e ∧ e ≤ ec → (ec - e).toNat < fu → V K (0, 0) 2 [some (.ref x), some (.int (iZ n)), some (.int (iZ e)), none, none, none, none, none] [] [(x, .inr (10, [.ref w, .ref hi, .ref tx, .ref sh])), (w, .inr (9, [.ref pw, .int (iZ lo2), .int (iZ z)])), (pw, .inr (3, [.ref aw, .int (iZ n)])), (aw, .inl (G.2 0, 48, .inl (iF f))), (sh, .inr (7, [.ref rr, .ref lo, .ref mk, .ref ea, .ref pt, .int (iZ m)])), (lo, .inr (2, [.ref lb, .ref lc, .int (iZ nh), .int (iZ ec), .long (lZ es)])), (lb, .inl (G.2 1, 3000, .inr (.inl (lF Nn)))), (lc, .inl (G.2 0, 600, .inl (iF Ec))), (ea, .inr (0, [.ref eb])), (eb, .inl (G.2 1, 48, .inr (.inl (lF A))))] := by
    intro fu
    induction fu with
    | zero => intro e _ hm; exact absurd hm (Nat.not_lt_zero _)
    | succ fu ih2 =>
      intro e hI2 hm2
      refine V_aload_n h (dk dd_L_heard_0 2 rfl) rfl get0 ?_
      refine V_iload_n h (dk dd_L_heard_0 3 rfl) rfl get2 ?_
      rcases (show e < ec ∨ e = ec by omega) with he | he
      · refine V_callV h st2 ci_L_56 (pk_c get0 (pk_c get4 (pk_c get5 (pk_c get6 (pk_c get7 pk_n))))) rfl 0 get0 rfl (m_echo_in l G _ _ _ _ _ _ _ _ _ _ _ _ _ _ _ _ _ _ _ (by omega) (by omega)) rfl rfl (Nat.le_of_ble_eq_true rfl) (by decide) ⟨rfl, rfl, rfl⟩ (dk dd_L_heard_0 4 rfl) sk1 (sm_c set0 (sm_c set4 (sm_c set5 (sm_c set6 (sm_c set7 sm_n))))) ?_
        have q3 : e < ec → 0 ≤ Ec e ∧ Ec e < nh := fun q => g3 e hI2.1 q
        refine V_if_lt (tgt := 37) h (dk dd_L_heard_0 5 rfl) rfl (by omega) (fun c7 => ?_) (fun c7 => ?_)
        · exfalso; omega
        · refine V_iload_n h (dk dd_L_heard_0 6 rfl) rfl get2 ?_
          refine V_if_le (tgt := 31) h (dk dd_L_heard_0 7 rfl) rfl (by omega) (fun c11 => ?_) (fun c11 => ?_)
          · refine V_iinc h (dk dd_L_heard_0 19 rfl) get2 (Nat.le_of_ble_eq_true rfl) rfl set2 ?_
            refine V_goto (tgt := 2) h (dk dd_L_heard_0 20 rfl) rfl ?_
            exact ih2 _ (by omega) (by omega)
          · have q4 := g4 e (by omega) (by omega)
            have q5 := g3 (e - 1) (by omega) (by omega)
            refine V_aload_n h (dk dd_L_heard_0 8 rfl) rfl get0 ?_
            refine V_iload_n h (dk dd_L_heard_0 9 rfl) rfl get2 ?_
            refine V_callV h st2 ci_L_56 (pk_c get0 (pk_c get4 (pk_c get5 (pk_c get6 (pk_c get7 pk_n))))) rfl 0 get0 rfl (m_echo_in l G _ _ _ _ _ _ _ _ _ _ _ _ _ _ _ _ _ _ _ (by omega) (by omega)) rfl rfl (Nat.le_of_ble_eq_true rfl) (by decide) ⟨rfl, rfl, rfl⟩ (dk dd_L_heard_0 10 rfl) sk1 (sm_c set0 (sm_c set4 (sm_c set5 (sm_c set6 (sm_c set7 sm_n))))) ?_
            refine V_aload_n h (dk dd_L_heard_0 11 rfl) rfl get0 ?_
            refine V_iload_n h (dk dd_L_heard_0 12 rfl) rfl get2 ?_
            refine V_iconst h (dk dd_L_heard_0 13 rfl) ?_
            refine V_isub h (dk dd_L_heard_0 14 rfl) ?_
            refine V_callV h st2 ci_L_56 (pk_c get0 (pk_c get4 (pk_c get5 (pk_c get6 (pk_c get7 pk_n))))) rfl 0 get0 rfl (m_echo_in l G _ _ _ _ _ _ _ _ _ _ _ _ _ _ _ _ _ _ _ (by omega) (by omega)) rfl rfl (Nat.le_of_ble_eq_true rfl) (by decide) ⟨rfl, rfl, rfl⟩ (dk dd_L_heard_0 15 rfl) sk1 (sm_c set0 (sm_c set4 (sm_c set5 (sm_c set6 (sm_c set7 sm_n))))) ?_
            refine V_icmp_gt (tgt := 31) h (dk dd_L_heard_0 16 rfl) rfl (by omega) (fun c26 => ?_) (fun c26 => ?_)
            · refine V_iinc h (dk dd_L_heard_0 19 rfl) get2 (Nat.le_of_ble_eq_true rfl) rfl set2 ?_
              refine V_goto (tgt := 2) h (dk dd_L_heard_0 20 rfl) rfl ?_
              exact ih2 _ (by omega) (by omega)
            · exfalso; omega
      · refine V_callV h st2 ci_L_56 (pk_c get0 (pk_c get4 (pk_c get5 (pk_c get6 (pk_c get7 pk_n))))) rfl 0 get0 rfl (m_echo_none l G _ _ _ _ _ _ _ _ _ _ _ _ _ _ _ _ _ _ _ (by omega) (by omega)) rfl rfl (Nat.le_of_ble_eq_true rfl) (by decide) ⟨rfl, rfl, rfl⟩ (dk dd_L_heard_0 4 rfl) sk1 (sm_c set0 (sm_c set4 (sm_c set5 (sm_c set6 (sm_c set7 sm_n))))) ?_
        have q3 : e < ec → 0 ≤ Ec e ∧ Ec e < nh := fun q => g3 e hI2.1 q
        refine V_if_lt (tgt := 37) h (dk dd_L_heard_0 5 rfl) rfl (by omega) (fun c7 => ?_) (fun c7 => ?_)
        · refine V_lconst0 h (dk dd_L_heard_0 21 rfl) ?_
          refine V_lstore_n h (dk dd_L_heard_0 22 rfl) rfl (Nat.le_of_ble_eq_true rfl) rfl set3 set4 ?_
          refine V_iconst h (dk dd_L_heard_0 23 rfl) ?_
          refine V_istore h (dk dd_L_heard_0 24 rfl) (Nat.le_of_ble_eq_true rfl) rfl set5 ?_
          have L42 : ∀ (fu : Nat) (many q : Int), 0 ≤ q ∧ q ≤ 12 ∧ many = sumA A q.toNat ∧ 0 ≤ many ∧ many ≤ 7200 → (12 - q).toNat < fu → V K (0, 0) 42 [some (.ref x), some (.int (iZ n)), some (.int (iZ e)), some (.long (lZ many)), none, some (.int (iZ q)), none, none] [] [(x, .inr (10, [.ref w, .ref hi, .ref tx, .ref sh])), (w, .inr (9, [.ref pw, .int (iZ lo2), .int (iZ z)])), (pw, .inr (3, [.ref aw, .int (iZ n)])), (aw, .inl (G.2 0, 48, .inl (iF f))), (sh, .inr (7, [.ref rr, .ref lo, .ref mk, .ref ea, .ref pt, .int (iZ m)])), (lo, .inr (2, [.ref lb, .ref lc, .int (iZ nh), .int (iZ ec), .long (lZ es)])), (lb, .inl (G.2 1, 3000, .inr (.inl (lF Nn)))), (lc, .inl (G.2 0, 600, .inl (iF Ec))), (ea, .inr (0, [.ref eb])), (eb, .inl (G.2 1, 48, .inr (.inl (lF A))))] := by
            intro fu
            induction fu with
            | zero => intro many q _ hm; exact absurd hm (Nat.not_lt_zero _)
            | succ fu ih42 =>
              intro many q hI42 hm42
              refine V_iload h (dk dd_L_heard_0 25 rfl) get5 ?_
              refine V_bipush h (dk dd_L_heard_0 26 rfl) (by decide) ?_
              refine V_icmp_ge (tgt := 211) h (dk dd_L_heard_0 27 rfl) rfl (by omega) (fun c46 => ?_) (fun c46 => ?_)
              · obtain ⟨hI42a, hI42b, hI42c, hI42d, hI42e⟩ := hI42
                have e9 : q = 12 := by omega
                subst e9
                have hs12 : sumA A (12 : Int).toNat = sumA A 12 := rfl
                rw [hs12] at hI42c
                have hs3 := hsn.1
                refine V_lload_n h (dk dd_L_heard_2 19 rfl) rfl get3 ?_
                refine V_iload_n h (dk dd_L_heard_2 20 rfl) rfl get2 ?_
                refine V_i2l h (dk dd_L_heard_2 21 rfl) (by omega) ?_
                refine V_lcmp_lt (tgt := 245) h (dk dd_L_heard_2 22 rfl) (dk dd_L_heard_2 23 rfl) rfl (by omega) (fun c214 => ?_) (fun c214 => ?_)
                · exfalso; omega
                · refine V_lload_n h (dk dd_L_heard_2 24 rfl) rfl get3 ?_
                  refine V_lconst0 h (dk dd_L_heard_2 25 rfl) ?_
                  refine V_lcmp_le (tgt := 228) h (dk dd_L_heard_2 26 rfl) (dk dd_L_heard_2 27 rfl) rfl (by omega) (fun c220 => ?_) (fun c220 => ?_)
                  · refine V_iconst h (dk dd_L_heard_2 30 rfl) ?_
                    refine V_iload_n h (dk dd_L_heard_2 31 rfl) rfl get2 ?_
                    refine V_if_le (tgt := 237) h (dk dd_L_heard_2 32 rfl) rfl (by omega) (fun c230 => ?_) (fun c230 => ?_)
                    · refine V_iconst h (dk dd_L_heard_2 35 rfl) ?_
                      refine V_icmp_ne (tgt := 245) h (dk dd_L_heard_2 36 rfl) rfl (by omega) (fun c238 => ?_) (fun c238 => ?_)
                      · exfalso; omega
                      · refine V_iconst h (dk dd_L_heard_2 37 rfl) ?_
                        refine V_goto (tgt := 246) h (dk dd_L_heard_2 38 rfl) rfl ?_
                        refine V_zret h hF (dk dd_L_heard_2 40 rfl) ⟨Nat.le_of_ble_eq_true rfl, Nat.le_of_ble_eq_true rfl⟩ (by first | exact Or.inr rfl | exact Or.inl rfl | exact bZ_01 | omega) ?_
                        exact det_i rfl rfl
                    · refine V_iconst h (dk dd_L_heard_2 33 rfl) ?_
                      refine V_goto (tgt := 238) h (dk dd_L_heard_2 34 rfl) rfl ?_
                      refine V_icmp_ne (tgt := 245) h (dk dd_L_heard_2 36 rfl) rfl (by omega) (fun c238_2 => ?_) (fun c238_2 => ?_)
                      · exfalso; omega
                      · refine V_iconst h (dk dd_L_heard_2 37 rfl) ?_
                        refine V_goto (tgt := 246) h (dk dd_L_heard_2 38 rfl) rfl ?_
                        refine V_zret h hF (dk dd_L_heard_2 40 rfl) ⟨Nat.le_of_ble_eq_true rfl, Nat.le_of_ble_eq_true rfl⟩ (by first | exact Or.inr rfl | exact Or.inl rfl | exact bZ_01 | omega) ?_
                        exact det_i rfl rfl
                  · refine V_iconst h (dk dd_L_heard_2 28 rfl) ?_
                    refine V_goto (tgt := 229) h (dk dd_L_heard_2 29 rfl) rfl ?_
                    refine V_iload_n h (dk dd_L_heard_2 31 rfl) rfl get2 ?_
                    refine V_if_le (tgt := 237) h (dk dd_L_heard_2 32 rfl) rfl (by omega) (fun c230_2 => ?_) (fun c230_2 => ?_)
                    · refine V_iconst h (dk dd_L_heard_2 35 rfl) ?_
                      refine V_icmp_ne (tgt := 245) h (dk dd_L_heard_2 36 rfl) rfl (by omega) (fun c238_3 => ?_) (fun c238_3 => ?_)
                      · exfalso; omega
                      · refine V_iconst h (dk dd_L_heard_2 37 rfl) ?_
                        refine V_goto (tgt := 246) h (dk dd_L_heard_2 38 rfl) rfl ?_
                        refine V_zret h hF (dk dd_L_heard_2 40 rfl) ⟨Nat.le_of_ble_eq_true rfl, Nat.le_of_ble_eq_true rfl⟩ (by first | exact Or.inr rfl | exact Or.inl rfl | exact bZ_01 | omega) ?_
                        exact det_i rfl rfl
                    · refine V_iconst h (dk dd_L_heard_2 33 rfl) ?_
                      refine V_goto (tgt := 238) h (dk dd_L_heard_2 34 rfl) rfl ?_
                      refine V_icmp_ne (tgt := 245) h (dk dd_L_heard_2 36 rfl) rfl (by omega) (fun c238_4 => ?_) (fun c238_4 => ?_)
                      · exfalso; omega
                      · refine V_iconst h (dk dd_L_heard_2 37 rfl) ?_
                        refine V_goto (tgt := 246) h (dk dd_L_heard_2 38 rfl) rfl ?_
                        refine V_zret h hF (dk dd_L_heard_2 40 rfl) ⟨Nat.le_of_ble_eq_true rfl, Nat.le_of_ble_eq_true rfl⟩ (by first | exact Or.inr rfl | exact Or.inl rfl | exact bZ_01 | omega) ?_
                        exact det_i rfl rfl
              · obtain ⟨hI42a, hI42b, hI42c, hI42d, hI42e⟩ := hI42
                obtain ⟨p1, p2, ⟨p3, p3b⟩, p4, p5⟩ := g1 q hI42a (by omega)
                have a0 := hA (q * 4) (by omega) (by omega)
                have a1 := hA (q * 4 + 1) (by omega) (by omega)
                have a2 := hA (q * 4 + 2) (by omega) (by omega)
                have a3 := hA (q * 4 + 3) (by omega) (by omega)
                have hs1 := (sumA_nn (A := A) (fun p a b => (g1 p a b).1) q.toNat (by omega)).1
                have hs2 := hsn.2 q hI42a (by omega)
                have hsq := (sumA_nn (A := A) (fun p a b => (g1 p a b).1) (q + 1).toNat (by omega)).1
                have hsl := sumA_le (A := A) (fun p a b => (g1 p a b).1) (q + 1).toNat (12 - (q + 1).toNat) (by omega)
                rw [show (q + 1).toNat + (12 - (q + 1).toNat) = 12 by omega, sumA_s hI42a, ← hI42c] at hsl
                have hX1 := Int.mul_nonneg p1 p3
                have hX2 := Int.mul_le_mul (a := A (q * 4)) (b := A (q * 4 + 3)) (c := 7200) (d := 1000000) (by omega) (by omega) p3 (by decide)
                refine V_aload_n h (dk dd_L_heard_0 28 rfl) rfl get0 ?_
                refine V_iload h (dk dd_L_heard_0 29 rfl) get5 ?_
                refine V_iconst h (dk dd_L_heard_0 30 rfl) ?_
                refine V_callV h st3 ci_L_53 (pk_c get0 (pk_c get4 (pk_c get8 (pk_c get9 pk_n)))) rfl 0 get0 rfl (m_heard_in l G _ _ _ _ _ _ _ _ _ _ _ _ _ _ _ (by omega) (by omega)) rfl rfl (Nat.le_of_ble_eq_true rfl) (by decide) ⟨rfl, rfl, rfl⟩ (dk dd_L_heard_0 31 rfl) sk1 (sm_c set0 (sm_c set4 (sm_c set8 (sm_c set9 sm_n)))) ?_
                rw [Int.add_zero]
                refine V_lstore h (dk dd_L_heard_0 32 rfl) (Nat.le_of_ble_eq_true rfl) rfl set6 set7 ?_
                refine V_lload_n h (dk dd_L_heard_0 33 rfl) rfl get3 ?_
                refine V_lload h (dk dd_L_heard_0 34 rfl) get6 ?_
                refine V_ladd h (dk dd_L_heard_0 35 rfl) ?_
                refine V_lstore_n h (dk dd_L_heard_0 36 rfl) rfl (Nat.le_of_ble_eq_true rfl) rfl set3 set4 ?_
                refine V_iload h (dk dd_L_heard_0 37 rfl) get5 ?_
                refine V_iload_n h (dk dd_L_heard_0 38 rfl) rfl get1 ?_
                refine V_icmp_lt (tgt := 79) h (dk dd_L_heard_0 39 rfl) rfl (by omega) (fun c66 => ?_) (fun c66 => ?_)
                · refine V_lload h (dk dd_L_heard_0 45 rfl) get6 ?_
                  refine V_lconst0 h (dk dd_L_heard_0 46 rfl) ?_
                  refine V_lcmp_le (tgt := 99) h (dk dd_L_heard_0 47 rfl) (dk dd_L_heard_0 48 rfl) rfl (by omega) (fun c82 => ?_) (fun c82 => ?_)
                  · refine V_lload h (dk dd_L_heard_1 7 rfl) get6 ?_
                    refine V_lconst0 h (dk dd_L_heard_1 8 rfl) ?_
                    refine V_lcmp_ne (tgt := 147) h (dk dd_L_heard_1 9 rfl) (dk dd_L_heard_1 10 rfl) rfl (by omega) (fun c102 => ?_) (fun c102 => ?_)
                    · refine V_aload_n h (dk dd_L_heard_1 33 rfl) rfl get0 ?_
                      refine V_iload h (dk dd_L_heard_1 34 rfl) get5 ?_
                      refine V_iconst h (dk dd_L_heard_1 35 rfl) ?_
                      refine V_callV h st3 ci_L_53 (pk_c get0 (pk_c get4 (pk_c get8 (pk_c get9 pk_n)))) rfl 0 get0 rfl (m_heard_in l G _ _ _ _ _ _ _ _ _ _ _ _ _ _ _ (by omega) (by omega)) rfl rfl (Nat.le_of_ble_eq_true rfl) (by decide) ⟨rfl, rfl, rfl⟩ (dk dd_L_heard_1 36 rfl) sk1 (sm_c set0 (sm_c set4 (sm_c set8 (sm_c set9 sm_n)))) ?_
                      refine V_aload_n h (dk dd_L_heard_1 37 rfl) rfl get0 ?_
                      refine V_iload h (dk dd_L_heard_1 38 rfl) get5 ?_
                      refine V_iconst h (dk dd_L_heard_1 39 rfl) ?_
                      refine V_callV h st3 ci_L_53 (pk_c get0 (pk_c get4 (pk_c get8 (pk_c get9 pk_n)))) rfl 0 get0 rfl (m_heard_in l G _ _ _ _ _ _ _ _ _ _ _ _ _ _ _ (by omega) (by omega)) rfl rfl (Nat.le_of_ble_eq_true rfl) (by decide) ⟨rfl, rfl, rfl⟩ (dk dd_L_heard_1 40 rfl) sk1 (sm_c set0 (sm_c set4 (sm_c set8 (sm_c set9 sm_n)))) ?_
                      refine V_lcmp_lt (tgt := 203) h (dk dd_L_heard_1 41 rfl) (dk dd_L_heard_1 42 rfl) rfl (by omega) (fun c161 => ?_) (fun c161 => ?_)
                      · exfalso; omega
                      · refine V_aload_n h (dk dd_L_heard_1 43 rfl) rfl get0 ?_
                        refine V_iload h (dk dd_L_heard_1 44 rfl) get5 ?_
                        refine V_iconst h (dk dd_L_heard_1 45 rfl) ?_
                        refine V_callV h st3 ci_L_53 (pk_c get0 (pk_c get4 (pk_c get8 (pk_c get9 pk_n)))) rfl 0 get0 rfl (m_heard_in l G _ _ _ _ _ _ _ _ _ _ _ _ _ _ _ (by omega) (by omega)) rfl rfl (Nat.le_of_ble_eq_true rfl) (by decide) ⟨rfl, rfl, rfl⟩ (dk dd_L_heard_1 46 rfl) sk1 (sm_c set0 (sm_c set4 (sm_c set8 (sm_c set9 sm_n)))) ?_
                        refine V_lload h (dk dd_L_heard_1 47 rfl) get6 ?_
                        refine V_aload_n h (dk dd_L_heard_1 48 rfl) rfl get0 ?_
                        refine V_iload h (dk dd_L_heard_1 49 rfl) get5 ?_
                        refine V_iconst h (dk dd_L_heard_2 0 rfl) ?_
                        refine V_callV h st3 ci_L_53 (pk_c get0 (pk_c get4 (pk_c get8 (pk_c get9 pk_n)))) rfl 0 get0 rfl (m_heard_in l G _ _ _ _ _ _ _ _ _ _ _ _ _ _ _ (by omega) (by omega)) rfl rfl (Nat.le_of_ble_eq_true rfl) (by decide) ⟨rfl, rfl, rfl⟩ (dk dd_L_heard_2 1 rfl) sk1 (sm_c set0 (sm_c set4 (sm_c set8 (sm_c set9 sm_n)))) ?_
                        refine V_lmul h (dk dd_L_heard_2 2 rfl) ?_
                        refine V_lcmp_gt (tgt := 203) h (dk dd_L_heard_2 3 rfl) (dk dd_L_heard_2 4 rfl) rfl (by omega) (fun c182 => ?_) (fun c182 => ?_)
                        · exfalso; omega
                        · refine V_aload_n h (dk dd_L_heard_2 5 rfl) rfl get0 ?_
                          refine V_iload h (dk dd_L_heard_2 6 rfl) get5 ?_
                          refine V_iconst h (dk dd_L_heard_2 7 rfl) ?_
                          refine V_callV h st3 ci_L_53 (pk_c get0 (pk_c get4 (pk_c get8 (pk_c get9 pk_n)))) rfl 0 get0 rfl (m_heard_in l G _ _ _ _ _ _ _ _ _ _ _ _ _ _ _ (by omega) (by omega)) rfl rfl (Nat.le_of_ble_eq_true rfl) (by decide) ⟨rfl, rfl, rfl⟩ (dk dd_L_heard_2 8 rfl) sk1 (sm_c set0 (sm_c set4 (sm_c set8 (sm_c set9 sm_n)))) ?_
                          refine V_aload_n h (dk dd_L_heard_2 9 rfl) rfl get0 ?_
                          refine V_iconst h (dk dd_L_heard_2 10 rfl) ?_
                          refine V_iconst h (dk dd_L_heard_2 11 rfl) ?_
                          refine V_callV h st3 ci_L_47 (pk_c get0 (pk_c get4 (pk_c get5 (pk_c get6 (pk_c get7 pk_n))))) rfl 0 get0 rfl (m_hit_in l G _ _ _ _ _ _ _ _ _ _ _ _ _ _ _ _ _ _ _ _ (by omega) (by omega) (by omega)) rfl rfl (Nat.le_of_ble_eq_true rfl) (by decide) ⟨rfl, rfl, rfl⟩ (dk dd_L_heard_2 12 rfl) sk1 (sm_c set0 (sm_c set4 (sm_c set5 (sm_c set6 (sm_c set7 sm_n))))) ?_
                          refine V_lcmp_ge (tgt := 205) h (dk dd_L_heard_2 13 rfl) (dk dd_L_heard_2 14 rfl) rfl (by omega) (fun c199 => ?_) (fun c199 => ?_)
                          · refine V_iinc h (dk dd_L_heard_2 17 rfl) get5 (Nat.le_of_ble_eq_true rfl) rfl set5 ?_
                            refine V_goto (tgt := 42) h (dk dd_L_heard_2 18 rfl) rfl ?_
                            refine V_wk (lw_s (lw_s (lw_s (lw_s (lw_s (lw_s (lw_o (lw_s lw_n)))))))) ?_
                            exact ih42 _ _ (⟨by omega, by omega, by rw [sumA_s hI42a, ← hI42c], by omega, by omega⟩) (by omega)
                          · exfalso; omega
                    · refine V_aload_n h (dk dd_L_heard_1 11 rfl) rfl get0 ?_
                      refine V_iload h (dk dd_L_heard_1 12 rfl) get5 ?_
                      refine V_iconst h (dk dd_L_heard_1 13 rfl) ?_
                      refine V_callV h st3 ci_L_53 (pk_c get0 (pk_c get4 (pk_c get8 (pk_c get9 pk_n)))) rfl 0 get0 rfl (m_heard_in l G _ _ _ _ _ _ _ _ _ _ _ _ _ _ _ (by omega) (by omega)) rfl rfl (Nat.le_of_ble_eq_true rfl) (by decide) ⟨rfl, rfl, rfl⟩ (dk dd_L_heard_1 14 rfl) sk1 (sm_c set0 (sm_c set4 (sm_c set8 (sm_c set9 sm_n)))) ?_
                      refine V_lconst0 h (dk dd_L_heard_1 15 rfl) ?_
                      refine V_lcmp_ne (tgt := 203) h (dk dd_L_heard_1 16 rfl) (dk dd_L_heard_1 17 rfl) rfl (by omega) (fun c114 => ?_) (fun c114 => ?_)
                      · exfalso; omega
                      · refine V_aload_n h (dk dd_L_heard_1 18 rfl) rfl get0 ?_
                        refine V_iload h (dk dd_L_heard_1 19 rfl) get5 ?_
                        refine V_iconst h (dk dd_L_heard_1 20 rfl) ?_
                        refine V_callV h st3 ci_L_53 (pk_c get0 (pk_c get4 (pk_c get8 (pk_c get9 pk_n)))) rfl 0 get0 rfl (m_heard_in l G _ _ _ _ _ _ _ _ _ _ _ _ _ _ _ (by omega) (by omega)) rfl rfl (Nat.le_of_ble_eq_true rfl) (by decide) ⟨rfl, rfl, rfl⟩ (dk dd_L_heard_1 21 rfl) sk1 (sm_c set0 (sm_c set4 (sm_c set8 (sm_c set9 sm_n)))) ?_
                        refine V_ldc2 h q3_148 (dk dd_L_heard_1 22 rfl) ?_
                        refine V_lcmp_ne (tgt := 203) h (dk dd_L_heard_1 23 rfl) (dk dd_L_heard_1 24 rfl) rfl (by omega) (fun c128 => ?_) (fun c128 => ?_)
                        · exfalso; omega
                        · refine V_aload_n h (dk dd_L_heard_1 25 rfl) rfl get0 ?_
                          refine V_iload h (dk dd_L_heard_1 26 rfl) get5 ?_
                          refine V_iconst h (dk dd_L_heard_1 27 rfl) ?_
                          refine V_callV h st3 ci_L_53 (pk_c get0 (pk_c get4 (pk_c get8 (pk_c get9 pk_n)))) rfl 0 get0 rfl (m_heard_in l G _ _ _ _ _ _ _ _ _ _ _ _ _ _ _ (by omega) (by omega)) rfl rfl (Nat.le_of_ble_eq_true rfl) (by decide) ⟨rfl, rfl, rfl⟩ (dk dd_L_heard_1 28 rfl) sk1 (sm_c set0 (sm_c set4 (sm_c set8 (sm_c set9 sm_n)))) ?_
                          refine V_lconst0 h (dk dd_L_heard_1 29 rfl) ?_
                          refine V_lcmp_eq (tgt := 205) h (dk dd_L_heard_1 30 rfl) (dk dd_L_heard_1 31 rfl) rfl (by omega) (fun c140 => ?_) (fun c140 => ?_)
                          · refine V_iinc h (dk dd_L_heard_2 17 rfl) get5 (Nat.le_of_ble_eq_true rfl) rfl set5 ?_
                            refine V_goto (tgt := 42) h (dk dd_L_heard_2 18 rfl) rfl ?_
                            refine V_wk (lw_s (lw_s (lw_s (lw_s (lw_s (lw_s (lw_o (lw_s lw_n)))))))) ?_
                            exact ih42 _ _ (⟨by omega, by omega, by rw [sumA_s hI42a, ← hI42c], by omega, by omega⟩) (by omega)
                          · refine V_goto (tgt := 203) h (dk dd_L_heard_1 32 rfl) rfl ?_
                            exfalso; omega
                  · refine V_aload_n h (dk dd_L_heard_0 49 rfl) rfl get0 ?_
                    refine V_iload h (dk dd_L_heard_1 0 rfl) get5 ?_
                    refine V_iconst h (dk dd_L_heard_1 1 rfl) ?_
                    refine V_callV h st3 ci_L_30 (pk_c get0 (pk_c get1 (pk_c get2 (pk_c get3 pk_n)))) rfl 0 get0 rfl (m_part_in l G _ _ _ _ _ _ _ _ _ _ _ _ _ (by omega) (by omega) (by omega)) rfl rfl (Nat.le_of_ble_eq_true rfl) (by decide) ⟨rfl, rfl, rfl⟩ (dk dd_L_heard_1 2 rfl) sk1 (sm_c set0 (sm_c set1 (sm_c set2 (sm_c set3 sm_n)))) ?_
                    refine V_iconst h (dk dd_L_heard_1 3 rfl) ?_
                    have hfk := (p5 (by omega)).2.2.2.2
                    refine V_icmp_eq (tgt := 99) h (dk dd_L_heard_1 4 rfl) rfl (by omega) (fun c94 => ?_) (fun c94 => ?_)
                    · refine V_lload h (dk dd_L_heard_1 7 rfl) get6 ?_
                      refine V_lconst0 h (dk dd_L_heard_1 8 rfl) ?_
                      refine V_lcmp_ne (tgt := 147) h (dk dd_L_heard_1 9 rfl) (dk dd_L_heard_1 10 rfl) rfl (by omega) (fun c102_2 => ?_) (fun c102_2 => ?_)
                      · refine V_aload_n h (dk dd_L_heard_1 33 rfl) rfl get0 ?_
                        refine V_iload h (dk dd_L_heard_1 34 rfl) get5 ?_
                        refine V_iconst h (dk dd_L_heard_1 35 rfl) ?_
                        refine V_callV h st3 ci_L_53 (pk_c get0 (pk_c get4 (pk_c get8 (pk_c get9 pk_n)))) rfl 0 get0 rfl (m_heard_in l G _ _ _ _ _ _ _ _ _ _ _ _ _ _ _ (by omega) (by omega)) rfl rfl (Nat.le_of_ble_eq_true rfl) (by decide) ⟨rfl, rfl, rfl⟩ (dk dd_L_heard_1 36 rfl) sk1 (sm_c set0 (sm_c set4 (sm_c set8 (sm_c set9 sm_n)))) ?_
                        refine V_aload_n h (dk dd_L_heard_1 37 rfl) rfl get0 ?_
                        refine V_iload h (dk dd_L_heard_1 38 rfl) get5 ?_
                        refine V_iconst h (dk dd_L_heard_1 39 rfl) ?_
                        refine V_callV h st3 ci_L_53 (pk_c get0 (pk_c get4 (pk_c get8 (pk_c get9 pk_n)))) rfl 0 get0 rfl (m_heard_in l G _ _ _ _ _ _ _ _ _ _ _ _ _ _ _ (by omega) (by omega)) rfl rfl (Nat.le_of_ble_eq_true rfl) (by decide) ⟨rfl, rfl, rfl⟩ (dk dd_L_heard_1 40 rfl) sk1 (sm_c set0 (sm_c set4 (sm_c set8 (sm_c set9 sm_n)))) ?_
                        refine V_lcmp_lt (tgt := 203) h (dk dd_L_heard_1 41 rfl) (dk dd_L_heard_1 42 rfl) rfl (by omega) (fun c161_2 => ?_) (fun c161_2 => ?_)
                        · exfalso; omega
                        · refine V_aload_n h (dk dd_L_heard_1 43 rfl) rfl get0 ?_
                          refine V_iload h (dk dd_L_heard_1 44 rfl) get5 ?_
                          refine V_iconst h (dk dd_L_heard_1 45 rfl) ?_
                          refine V_callV h st3 ci_L_53 (pk_c get0 (pk_c get4 (pk_c get8 (pk_c get9 pk_n)))) rfl 0 get0 rfl (m_heard_in l G _ _ _ _ _ _ _ _ _ _ _ _ _ _ _ (by omega) (by omega)) rfl rfl (Nat.le_of_ble_eq_true rfl) (by decide) ⟨rfl, rfl, rfl⟩ (dk dd_L_heard_1 46 rfl) sk1 (sm_c set0 (sm_c set4 (sm_c set8 (sm_c set9 sm_n)))) ?_
                          refine V_lload h (dk dd_L_heard_1 47 rfl) get6 ?_
                          refine V_aload_n h (dk dd_L_heard_1 48 rfl) rfl get0 ?_
                          refine V_iload h (dk dd_L_heard_1 49 rfl) get5 ?_
                          refine V_iconst h (dk dd_L_heard_2 0 rfl) ?_
                          refine V_callV h st3 ci_L_53 (pk_c get0 (pk_c get4 (pk_c get8 (pk_c get9 pk_n)))) rfl 0 get0 rfl (m_heard_in l G _ _ _ _ _ _ _ _ _ _ _ _ _ _ _ (by omega) (by omega)) rfl rfl (Nat.le_of_ble_eq_true rfl) (by decide) ⟨rfl, rfl, rfl⟩ (dk dd_L_heard_2 1 rfl) sk1 (sm_c set0 (sm_c set4 (sm_c set8 (sm_c set9 sm_n)))) ?_
                          refine V_lmul h (dk dd_L_heard_2 2 rfl) ?_
                          refine V_lcmp_gt (tgt := 203) h (dk dd_L_heard_2 3 rfl) (dk dd_L_heard_2 4 rfl) rfl (by omega) (fun c182_2 => ?_) (fun c182_2 => ?_)
                          · exfalso; omega
                          · refine V_aload_n h (dk dd_L_heard_2 5 rfl) rfl get0 ?_
                            refine V_iload h (dk dd_L_heard_2 6 rfl) get5 ?_
                            refine V_iconst h (dk dd_L_heard_2 7 rfl) ?_
                            refine V_callV h st3 ci_L_53 (pk_c get0 (pk_c get4 (pk_c get8 (pk_c get9 pk_n)))) rfl 0 get0 rfl (m_heard_in l G _ _ _ _ _ _ _ _ _ _ _ _ _ _ _ (by omega) (by omega)) rfl rfl (Nat.le_of_ble_eq_true rfl) (by decide) ⟨rfl, rfl, rfl⟩ (dk dd_L_heard_2 8 rfl) sk1 (sm_c set0 (sm_c set4 (sm_c set8 (sm_c set9 sm_n)))) ?_
                            refine V_aload_n h (dk dd_L_heard_2 9 rfl) rfl get0 ?_
                            refine V_iconst h (dk dd_L_heard_2 10 rfl) ?_
                            refine V_iconst h (dk dd_L_heard_2 11 rfl) ?_
                            refine V_callV h st3 ci_L_47 (pk_c get0 (pk_c get4 (pk_c get5 (pk_c get6 (pk_c get7 pk_n))))) rfl 0 get0 rfl (m_hit_in l G _ _ _ _ _ _ _ _ _ _ _ _ _ _ _ _ _ _ _ _ (by omega) (by omega) (by omega)) rfl rfl (Nat.le_of_ble_eq_true rfl) (by decide) ⟨rfl, rfl, rfl⟩ (dk dd_L_heard_2 12 rfl) sk1 (sm_c set0 (sm_c set4 (sm_c set5 (sm_c set6 (sm_c set7 sm_n))))) ?_
                            refine V_lcmp_ge (tgt := 205) h (dk dd_L_heard_2 13 rfl) (dk dd_L_heard_2 14 rfl) rfl (by omega) (fun c199_2 => ?_) (fun c199_2 => ?_)
                            · refine V_iinc h (dk dd_L_heard_2 17 rfl) get5 (Nat.le_of_ble_eq_true rfl) rfl set5 ?_
                              refine V_goto (tgt := 42) h (dk dd_L_heard_2 18 rfl) rfl ?_
                              refine V_wk (lw_s (lw_s (lw_s (lw_s (lw_s (lw_s (lw_o (lw_s lw_n)))))))) ?_
                              exact ih42 _ _ (⟨by omega, by omega, by rw [sumA_s hI42a, ← hI42c], by omega, by omega⟩) (by omega)
                            · exfalso; omega
                      · refine V_aload_n h (dk dd_L_heard_1 11 rfl) rfl get0 ?_
                        refine V_iload h (dk dd_L_heard_1 12 rfl) get5 ?_
                        refine V_iconst h (dk dd_L_heard_1 13 rfl) ?_
                        refine V_callV h st3 ci_L_53 (pk_c get0 (pk_c get4 (pk_c get8 (pk_c get9 pk_n)))) rfl 0 get0 rfl (m_heard_in l G _ _ _ _ _ _ _ _ _ _ _ _ _ _ _ (by omega) (by omega)) rfl rfl (Nat.le_of_ble_eq_true rfl) (by decide) ⟨rfl, rfl, rfl⟩ (dk dd_L_heard_1 14 rfl) sk1 (sm_c set0 (sm_c set4 (sm_c set8 (sm_c set9 sm_n)))) ?_
                        refine V_lconst0 h (dk dd_L_heard_1 15 rfl) ?_
                        refine V_lcmp_ne (tgt := 203) h (dk dd_L_heard_1 16 rfl) (dk dd_L_heard_1 17 rfl) rfl (by omega) (fun c114_2 => ?_) (fun c114_2 => ?_)
                        · exfalso; omega
                        · refine V_aload_n h (dk dd_L_heard_1 18 rfl) rfl get0 ?_
                          refine V_iload h (dk dd_L_heard_1 19 rfl) get5 ?_
                          refine V_iconst h (dk dd_L_heard_1 20 rfl) ?_
                          refine V_callV h st3 ci_L_53 (pk_c get0 (pk_c get4 (pk_c get8 (pk_c get9 pk_n)))) rfl 0 get0 rfl (m_heard_in l G _ _ _ _ _ _ _ _ _ _ _ _ _ _ _ (by omega) (by omega)) rfl rfl (Nat.le_of_ble_eq_true rfl) (by decide) ⟨rfl, rfl, rfl⟩ (dk dd_L_heard_1 21 rfl) sk1 (sm_c set0 (sm_c set4 (sm_c set8 (sm_c set9 sm_n)))) ?_
                          refine V_ldc2 h q3_148 (dk dd_L_heard_1 22 rfl) ?_
                          refine V_lcmp_ne (tgt := 203) h (dk dd_L_heard_1 23 rfl) (dk dd_L_heard_1 24 rfl) rfl (by omega) (fun c128_2 => ?_) (fun c128_2 => ?_)
                          · exfalso; omega
                          · refine V_aload_n h (dk dd_L_heard_1 25 rfl) rfl get0 ?_
                            refine V_iload h (dk dd_L_heard_1 26 rfl) get5 ?_
                            refine V_iconst h (dk dd_L_heard_1 27 rfl) ?_
                            refine V_callV h st3 ci_L_53 (pk_c get0 (pk_c get4 (pk_c get8 (pk_c get9 pk_n)))) rfl 0 get0 rfl (m_heard_in l G _ _ _ _ _ _ _ _ _ _ _ _ _ _ _ (by omega) (by omega)) rfl rfl (Nat.le_of_ble_eq_true rfl) (by decide) ⟨rfl, rfl, rfl⟩ (dk dd_L_heard_1 28 rfl) sk1 (sm_c set0 (sm_c set4 (sm_c set8 (sm_c set9 sm_n)))) ?_
                            refine V_lconst0 h (dk dd_L_heard_1 29 rfl) ?_
                            refine V_lcmp_eq (tgt := 205) h (dk dd_L_heard_1 30 rfl) (dk dd_L_heard_1 31 rfl) rfl (by omega) (fun c140_2 => ?_) (fun c140_2 => ?_)
                            · refine V_iinc h (dk dd_L_heard_2 17 rfl) get5 (Nat.le_of_ble_eq_true rfl) rfl set5 ?_
                              refine V_goto (tgt := 42) h (dk dd_L_heard_2 18 rfl) rfl ?_
                              refine V_wk (lw_s (lw_s (lw_s (lw_s (lw_s (lw_s (lw_o (lw_s lw_n)))))))) ?_
                              exact ih42 _ _ (⟨by omega, by omega, by rw [sumA_s hI42a, ← hI42c], by omega, by omega⟩) (by omega)
                            · refine V_goto (tgt := 203) h (dk dd_L_heard_1 32 rfl) rfl ?_
                              exfalso; omega
                    · exfalso; omega
                · refine V_lload h (dk dd_L_heard_0 40 rfl) get6 ?_
                  refine V_lconst0 h (dk dd_L_heard_0 41 rfl) ?_
                  refine V_lcmp_eq (tgt := 99) h (dk dd_L_heard_0 42 rfl) (dk dd_L_heard_0 43 rfl) rfl (by omega) (fun c72 => ?_) (fun c72 => ?_)
                  · refine V_lload h (dk dd_L_heard_1 7 rfl) get6 ?_
                    refine V_lconst0 h (dk dd_L_heard_1 8 rfl) ?_
                    refine V_lcmp_ne (tgt := 147) h (dk dd_L_heard_1 9 rfl) (dk dd_L_heard_1 10 rfl) rfl (by omega) (fun c102_3 => ?_) (fun c102_3 => ?_)
                    · refine V_aload_n h (dk dd_L_heard_1 33 rfl) rfl get0 ?_
                      refine V_iload h (dk dd_L_heard_1 34 rfl) get5 ?_
                      refine V_iconst h (dk dd_L_heard_1 35 rfl) ?_
                      refine V_callV h st3 ci_L_53 (pk_c get0 (pk_c get4 (pk_c get8 (pk_c get9 pk_n)))) rfl 0 get0 rfl (m_heard_in l G _ _ _ _ _ _ _ _ _ _ _ _ _ _ _ (by omega) (by omega)) rfl rfl (Nat.le_of_ble_eq_true rfl) (by decide) ⟨rfl, rfl, rfl⟩ (dk dd_L_heard_1 36 rfl) sk1 (sm_c set0 (sm_c set4 (sm_c set8 (sm_c set9 sm_n)))) ?_
                      refine V_aload_n h (dk dd_L_heard_1 37 rfl) rfl get0 ?_
                      refine V_iload h (dk dd_L_heard_1 38 rfl) get5 ?_
                      refine V_iconst h (dk dd_L_heard_1 39 rfl) ?_
                      refine V_callV h st3 ci_L_53 (pk_c get0 (pk_c get4 (pk_c get8 (pk_c get9 pk_n)))) rfl 0 get0 rfl (m_heard_in l G _ _ _ _ _ _ _ _ _ _ _ _ _ _ _ (by omega) (by omega)) rfl rfl (Nat.le_of_ble_eq_true rfl) (by decide) ⟨rfl, rfl, rfl⟩ (dk dd_L_heard_1 40 rfl) sk1 (sm_c set0 (sm_c set4 (sm_c set8 (sm_c set9 sm_n)))) ?_
                      refine V_lcmp_lt (tgt := 203) h (dk dd_L_heard_1 41 rfl) (dk dd_L_heard_1 42 rfl) rfl (by omega) (fun c161_3 => ?_) (fun c161_3 => ?_)
                      · exfalso; omega
                      · refine V_aload_n h (dk dd_L_heard_1 43 rfl) rfl get0 ?_
                        refine V_iload h (dk dd_L_heard_1 44 rfl) get5 ?_
                        refine V_iconst h (dk dd_L_heard_1 45 rfl) ?_
                        refine V_callV h st3 ci_L_53 (pk_c get0 (pk_c get4 (pk_c get8 (pk_c get9 pk_n)))) rfl 0 get0 rfl (m_heard_in l G _ _ _ _ _ _ _ _ _ _ _ _ _ _ _ (by omega) (by omega)) rfl rfl (Nat.le_of_ble_eq_true rfl) (by decide) ⟨rfl, rfl, rfl⟩ (dk dd_L_heard_1 46 rfl) sk1 (sm_c set0 (sm_c set4 (sm_c set8 (sm_c set9 sm_n)))) ?_
                        refine V_lload h (dk dd_L_heard_1 47 rfl) get6 ?_
                        refine V_aload_n h (dk dd_L_heard_1 48 rfl) rfl get0 ?_
                        refine V_iload h (dk dd_L_heard_1 49 rfl) get5 ?_
                        refine V_iconst h (dk dd_L_heard_2 0 rfl) ?_
                        refine V_callV h st3 ci_L_53 (pk_c get0 (pk_c get4 (pk_c get8 (pk_c get9 pk_n)))) rfl 0 get0 rfl (m_heard_in l G _ _ _ _ _ _ _ _ _ _ _ _ _ _ _ (by omega) (by omega)) rfl rfl (Nat.le_of_ble_eq_true rfl) (by decide) ⟨rfl, rfl, rfl⟩ (dk dd_L_heard_2 1 rfl) sk1 (sm_c set0 (sm_c set4 (sm_c set8 (sm_c set9 sm_n)))) ?_
                        refine V_lmul h (dk dd_L_heard_2 2 rfl) ?_
                        refine V_lcmp_gt (tgt := 203) h (dk dd_L_heard_2 3 rfl) (dk dd_L_heard_2 4 rfl) rfl (by omega) (fun c182_3 => ?_) (fun c182_3 => ?_)
                        · exfalso; omega
                        · refine V_aload_n h (dk dd_L_heard_2 5 rfl) rfl get0 ?_
                          refine V_iload h (dk dd_L_heard_2 6 rfl) get5 ?_
                          refine V_iconst h (dk dd_L_heard_2 7 rfl) ?_
                          refine V_callV h st3 ci_L_53 (pk_c get0 (pk_c get4 (pk_c get8 (pk_c get9 pk_n)))) rfl 0 get0 rfl (m_heard_in l G _ _ _ _ _ _ _ _ _ _ _ _ _ _ _ (by omega) (by omega)) rfl rfl (Nat.le_of_ble_eq_true rfl) (by decide) ⟨rfl, rfl, rfl⟩ (dk dd_L_heard_2 8 rfl) sk1 (sm_c set0 (sm_c set4 (sm_c set8 (sm_c set9 sm_n)))) ?_
                          refine V_aload_n h (dk dd_L_heard_2 9 rfl) rfl get0 ?_
                          refine V_iconst h (dk dd_L_heard_2 10 rfl) ?_
                          refine V_iconst h (dk dd_L_heard_2 11 rfl) ?_
                          refine V_callV h st3 ci_L_47 (pk_c get0 (pk_c get4 (pk_c get5 (pk_c get6 (pk_c get7 pk_n))))) rfl 0 get0 rfl (m_hit_in l G _ _ _ _ _ _ _ _ _ _ _ _ _ _ _ _ _ _ _ _ (by omega) (by omega) (by omega)) rfl rfl (Nat.le_of_ble_eq_true rfl) (by decide) ⟨rfl, rfl, rfl⟩ (dk dd_L_heard_2 12 rfl) sk1 (sm_c set0 (sm_c set4 (sm_c set5 (sm_c set6 (sm_c set7 sm_n))))) ?_
                          refine V_lcmp_ge (tgt := 205) h (dk dd_L_heard_2 13 rfl) (dk dd_L_heard_2 14 rfl) rfl (by omega) (fun c199_3 => ?_) (fun c199_3 => ?_)
                          · refine V_iinc h (dk dd_L_heard_2 17 rfl) get5 (Nat.le_of_ble_eq_true rfl) rfl set5 ?_
                            refine V_goto (tgt := 42) h (dk dd_L_heard_2 18 rfl) rfl ?_
                            refine V_wk (lw_s (lw_s (lw_s (lw_s (lw_s (lw_s (lw_o (lw_s lw_n)))))))) ?_
                            exact ih42 _ _ (⟨by omega, by omega, by rw [sumA_s hI42a, ← hI42c], by omega, by omega⟩) (by omega)
                          · exfalso; omega
                    · refine V_aload_n h (dk dd_L_heard_1 11 rfl) rfl get0 ?_
                      refine V_iload h (dk dd_L_heard_1 12 rfl) get5 ?_
                      refine V_iconst h (dk dd_L_heard_1 13 rfl) ?_
                      refine V_callV h st3 ci_L_53 (pk_c get0 (pk_c get4 (pk_c get8 (pk_c get9 pk_n)))) rfl 0 get0 rfl (m_heard_in l G _ _ _ _ _ _ _ _ _ _ _ _ _ _ _ (by omega) (by omega)) rfl rfl (Nat.le_of_ble_eq_true rfl) (by decide) ⟨rfl, rfl, rfl⟩ (dk dd_L_heard_1 14 rfl) sk1 (sm_c set0 (sm_c set4 (sm_c set8 (sm_c set9 sm_n)))) ?_
                      refine V_lconst0 h (dk dd_L_heard_1 15 rfl) ?_
                      refine V_lcmp_ne (tgt := 203) h (dk dd_L_heard_1 16 rfl) (dk dd_L_heard_1 17 rfl) rfl (by omega) (fun c114_3 => ?_) (fun c114_3 => ?_)
                      · exfalso; omega
                      · refine V_aload_n h (dk dd_L_heard_1 18 rfl) rfl get0 ?_
                        refine V_iload h (dk dd_L_heard_1 19 rfl) get5 ?_
                        refine V_iconst h (dk dd_L_heard_1 20 rfl) ?_
                        refine V_callV h st3 ci_L_53 (pk_c get0 (pk_c get4 (pk_c get8 (pk_c get9 pk_n)))) rfl 0 get0 rfl (m_heard_in l G _ _ _ _ _ _ _ _ _ _ _ _ _ _ _ (by omega) (by omega)) rfl rfl (Nat.le_of_ble_eq_true rfl) (by decide) ⟨rfl, rfl, rfl⟩ (dk dd_L_heard_1 21 rfl) sk1 (sm_c set0 (sm_c set4 (sm_c set8 (sm_c set9 sm_n)))) ?_
                        refine V_ldc2 h q3_148 (dk dd_L_heard_1 22 rfl) ?_
                        refine V_lcmp_ne (tgt := 203) h (dk dd_L_heard_1 23 rfl) (dk dd_L_heard_1 24 rfl) rfl (by omega) (fun c128_3 => ?_) (fun c128_3 => ?_)
                        · exfalso; omega
                        · refine V_aload_n h (dk dd_L_heard_1 25 rfl) rfl get0 ?_
                          refine V_iload h (dk dd_L_heard_1 26 rfl) get5 ?_
                          refine V_iconst h (dk dd_L_heard_1 27 rfl) ?_
                          refine V_callV h st3 ci_L_53 (pk_c get0 (pk_c get4 (pk_c get8 (pk_c get9 pk_n)))) rfl 0 get0 rfl (m_heard_in l G _ _ _ _ _ _ _ _ _ _ _ _ _ _ _ (by omega) (by omega)) rfl rfl (Nat.le_of_ble_eq_true rfl) (by decide) ⟨rfl, rfl, rfl⟩ (dk dd_L_heard_1 28 rfl) sk1 (sm_c set0 (sm_c set4 (sm_c set8 (sm_c set9 sm_n)))) ?_
                          refine V_lconst0 h (dk dd_L_heard_1 29 rfl) ?_
                          refine V_lcmp_eq (tgt := 205) h (dk dd_L_heard_1 30 rfl) (dk dd_L_heard_1 31 rfl) rfl (by omega) (fun c140_3 => ?_) (fun c140_3 => ?_)
                          · refine V_iinc h (dk dd_L_heard_2 17 rfl) get5 (Nat.le_of_ble_eq_true rfl) rfl set5 ?_
                            refine V_goto (tgt := 42) h (dk dd_L_heard_2 18 rfl) rfl ?_
                            refine V_wk (lw_s (lw_s (lw_s (lw_s (lw_s (lw_s (lw_o (lw_s lw_n)))))))) ?_
                            exact ih42 _ _ (⟨by omega, by omega, by rw [sumA_s hI42a, ← hI42c], by omega, by omega⟩) (by omega)
                          · refine V_goto (tgt := 203) h (dk dd_L_heard_1 32 rfl) rfl ?_
                            exfalso; omega
                  · refine V_goto (tgt := 97) h (dk dd_L_heard_0 44 rfl) rfl ?_
                    exfalso; omega
          exact L42 _ 0 0 ⟨by omega, by omega, rfl, by omega, by omega⟩ (Nat.lt_succ_self _)
        · exfalso; omega
  exact L2 _ _ (by omega) (Nat.lt_succ_self _)

