/-! GalleryRays: the wall -/
set_option maxHeartbeats 4000000 in
set_option maxRecDepth 100000 in
theorem m_add_bad (l : Launch) (G : GT) (x w hi tx sh : Nat) (pw aw : Nat) (n lo2 z : Int) (f : Int → Int) (sa : Nat) (wa pa aa : Nat → Nat) (N L T : Nat → Int) (F : Nat → Int → Int) (c : Int) (k p m q : Int) (hn : 0 ≤ n ∧ n ≤ 12) (hc : 0 ≤ c ∧ c ≤ 5) (hk : R32 k) (hp : R32 p) (hm : R32 m) (hq : R32 q) (hA : ¬ allowP k p m q) : Ctr l G yX11_add cX11_add 5 (Option.some FieldType.int) (rmO 4 0 0 81) [.ref x, .int (iZ k), .int (iZ p), .int (iZ m), .int (iZ q)] [(x, .inr (10, [.ref w, .ref hi, .ref tx, .ref sh])), (w, .inr (9, [.ref pw, .int (iZ lo2), .int (iZ z)])), (pw, .inr (3, [.ref aw, .int (iZ n)])), (aw, .inl (G.2 0, 48, .inl (iF f))), (hi, .inr (1, [.ref sa, .int (iZ c)])), (sa, .inl (G.2 5, 5, .inr (.inr (.inr (.inr (arr5 wa)))))), ((wa 0), .inr (9, [.ref (pa 0), .int (iZ (L 0)), .int (iZ (T 0))])), ((pa 0), .inr (3, [.ref (aa 0), .int (iZ (N 0))])), ((aa 0), .inl (G.2 0, 48, .inl (iF (F 0)))), ((wa 1), .inr (9, [.ref (pa 1), .int (iZ (L 1)), .int (iZ (T 1))])), ((pa 1), .inr (3, [.ref (aa 1), .int (iZ (N 1))])), ((aa 1), .inl (G.2 0, 48, .inl (iF (F 1)))), ((wa 2), .inr (9, [.ref (pa 2), .int (iZ (L 2)), .int (iZ (T 2))])), ((pa 2), .inr (3, [.ref (aa 2), .int (iZ (N 2))])), ((aa 2), .inl (G.2 0, 48, .inl (iF (F 2)))), ((wa 3), .inr (9, [.ref (pa 3), .int (iZ (L 3)), .int (iZ (T 3))])), ((pa 3), .inr (3, [.ref (aa 3), .int (iZ (N 3))])), ((aa 3), .inl (G.2 0, 48, .inl (iF (F 3)))), ((wa 4), .inr (9, [.ref (pa 4), .int (iZ (L 4)), .int (iZ (T 4))])), ((pa 4), .inr (3, [.ref (aa 4), .int (iZ (N 4))])), ((aa 4), .inl (G.2 0, 48, .inl (iF (F 4))))] (Det (some (.int (iZ (-100001)))) [(x, .inr (10, [.ref w, .ref hi, .ref tx, .ref sh])), (w, .inr (9, [.ref pw, .int (iZ lo2), .int (iZ z)])), (pw, .inr (3, [.ref aw, .int (iZ n)])), (aw, .inl (G.2 0, 48, .inl (iF f))), (hi, .inr (1, [.ref sa, .int (iZ c)])), (sa, .inl (G.2 5, 5, .inr (.inr (.inr (.inr (arr5 wa)))))), ((wa 0), .inr (9, [.ref (pa 0), .int (iZ (L 0)), .int (iZ (T 0))])), ((pa 0), .inr (3, [.ref (aa 0), .int (iZ (N 0))])), ((aa 0), .inl (G.2 0, 48, .inl (iF (F 0)))), ((wa 1), .inr (9, [.ref (pa 1), .int (iZ (L 1)), .int (iZ (T 1))])), ((pa 1), .inr (3, [.ref (aa 1), .int (iZ (N 1))])), ((aa 1), .inl (G.2 0, 48, .inl (iF (F 1)))), ((wa 2), .inr (9, [.ref (pa 2), .int (iZ (L 2)), .int (iZ (T 2))])), ((pa 2), .inr (3, [.ref (aa 2), .int (iZ (N 2))])), ((aa 2), .inl (G.2 0, 48, .inl (iF (F 2)))), ((wa 3), .inr (9, [.ref (pa 3), .int (iZ (L 3)), .int (iZ (T 3))])), ((pa 3), .inr (3, [.ref (aa 3), .int (iZ (N 3))])), ((aa 3), .inl (G.2 0, 48, .inl (iF (F 3)))), ((wa 4), .inr (9, [.ref (pa 4), .int (iZ (L 4)), .int (iZ (T 4))])), ((pa 4), .inr (3, [.ref (aa 4), .int (iZ (N 4))])), ((aa 4), .inl (G.2 0, 48, .inl (iF (F 4))))]) := by
  refine Ctr.go (own := RX11) (nm := "add") (by decide +kernel) rfl rfl [some (.ref x), some (.int (iZ k)), some (.int (iZ p)), some (.int (iZ m)), some (.int (iZ q))] 0 rfl rfl (Nat.le_of_ble_eq_true rfl) ?_
  intro K h hF
  refine V_iload_n h (dk dd_X11_add_0 0 rfl) rfl get1 ?_
  refine V_iload_n h (dk dd_X11_add_0 1 rfl) rfl get2 ?_
  refine V_iload_n h (dk dd_X11_add_0 2 rfl) rfl get3 ?_
  refine V_iload h (dk dd_X11_add_0 3 rfl) get4 ?_
  refine V_callS h st4 ci_X11_37 pk_n rfl (m_X4_isAllowed l G _ _ _ _ (by omega) (by omega) (by omega) (by omega)) rfl rfl (Nat.le_of_ble_eq_true rfl) (by decide) ⟨rfl, rfl, rfl⟩ (dk dd_X11_add_0 4 rfl) sk1 sm_n ?_
  refine V_ifz_ne (tgt := 14) h (dk dd_X11_add_0 5 rfl) rfl (fun c8 => ?_) (fun c8 => ?_)
  · exact absurd c8 hA
  · refine V_ldc h q2_32 (dk dd_X11_add_0 6 rfl) ?_
    refine V_iret h hF (dk dd_X11_add_0 7 rfl) ⟨Nat.le_of_ble_eq_true rfl, Nat.le_of_ble_eq_true rfl⟩ ?_
    exact det_i (by first | rfl | omega) rfl

set_option maxHeartbeats 4000000 in
set_option maxRecDepth 100000 in
theorem m_add_full (l : Launch) (G : GT) (x w hi tx sh : Nat) (pw aw : Nat) (n lo2 z : Int) (f : Int → Int) (sa : Nat) (wa pa aa : Nat → Nat) (N L T : Nat → Int) (F : Nat → Int → Int) (c : Int) (k p m q : Int) (hn : 0 ≤ n ∧ n ≤ 12) (hc : 0 ≤ c ∧ c ≤ 5) (hk : R32 k) (hp : R32 p) (hm : R32 m) (hq : R32 q) (hA : allowP k p m q) (h12 : n = 12) : Ctr l G yX11_add cX11_add 5 (Option.some FieldType.int) (rmO 4 0 0 81) [.ref x, .int (iZ k), .int (iZ p), .int (iZ m), .int (iZ q)] [(x, .inr (10, [.ref w, .ref hi, .ref tx, .ref sh])), (w, .inr (9, [.ref pw, .int (iZ lo2), .int (iZ z)])), (pw, .inr (3, [.ref aw, .int (iZ n)])), (aw, .inl (G.2 0, 48, .inl (iF f))), (hi, .inr (1, [.ref sa, .int (iZ c)])), (sa, .inl (G.2 5, 5, .inr (.inr (.inr (.inr (arr5 wa)))))), ((wa 0), .inr (9, [.ref (pa 0), .int (iZ (L 0)), .int (iZ (T 0))])), ((pa 0), .inr (3, [.ref (aa 0), .int (iZ (N 0))])), ((aa 0), .inl (G.2 0, 48, .inl (iF (F 0)))), ((wa 1), .inr (9, [.ref (pa 1), .int (iZ (L 1)), .int (iZ (T 1))])), ((pa 1), .inr (3, [.ref (aa 1), .int (iZ (N 1))])), ((aa 1), .inl (G.2 0, 48, .inl (iF (F 1)))), ((wa 2), .inr (9, [.ref (pa 2), .int (iZ (L 2)), .int (iZ (T 2))])), ((pa 2), .inr (3, [.ref (aa 2), .int (iZ (N 2))])), ((aa 2), .inl (G.2 0, 48, .inl (iF (F 2)))), ((wa 3), .inr (9, [.ref (pa 3), .int (iZ (L 3)), .int (iZ (T 3))])), ((pa 3), .inr (3, [.ref (aa 3), .int (iZ (N 3))])), ((aa 3), .inl (G.2 0, 48, .inl (iF (F 3)))), ((wa 4), .inr (9, [.ref (pa 4), .int (iZ (L 4)), .int (iZ (T 4))])), ((pa 4), .inr (3, [.ref (aa 4), .int (iZ (N 4))])), ((aa 4), .inl (G.2 0, 48, .inl (iF (F 4))))] (Det (some (.int (iZ (-100003)))) [(x, .inr (10, [.ref w, .ref hi, .ref tx, .ref sh])), (w, .inr (9, [.ref pw, .int (iZ lo2), .int (iZ z)])), (pw, .inr (3, [.ref aw, .int (iZ n)])), (aw, .inl (G.2 0, 48, .inl (iF f))), (hi, .inr (1, [.ref sa, .int (iZ c)])), (sa, .inl (G.2 5, 5, .inr (.inr (.inr (.inr (arr5 wa)))))), ((wa 0), .inr (9, [.ref (pa 0), .int (iZ (L 0)), .int (iZ (T 0))])), ((pa 0), .inr (3, [.ref (aa 0), .int (iZ (N 0))])), ((aa 0), .inl (G.2 0, 48, .inl (iF (F 0)))), ((wa 1), .inr (9, [.ref (pa 1), .int (iZ (L 1)), .int (iZ (T 1))])), ((pa 1), .inr (3, [.ref (aa 1), .int (iZ (N 1))])), ((aa 1), .inl (G.2 0, 48, .inl (iF (F 1)))), ((wa 2), .inr (9, [.ref (pa 2), .int (iZ (L 2)), .int (iZ (T 2))])), ((pa 2), .inr (3, [.ref (aa 2), .int (iZ (N 2))])), ((aa 2), .inl (G.2 0, 48, .inl (iF (F 2)))), ((wa 3), .inr (9, [.ref (pa 3), .int (iZ (L 3)), .int (iZ (T 3))])), ((pa 3), .inr (3, [.ref (aa 3), .int (iZ (N 3))])), ((aa 3), .inl (G.2 0, 48, .inl (iF (F 3)))), ((wa 4), .inr (9, [.ref (pa 4), .int (iZ (L 4)), .int (iZ (T 4))])), ((pa 4), .inr (3, [.ref (aa 4), .int (iZ (N 4))])), ((aa 4), .inl (G.2 0, 48, .inl (iF (F 4))))]) := by
  refine Ctr.go (own := RX11) (nm := "add") (by decide +kernel) rfl rfl [some (.ref x), some (.int (iZ k)), some (.int (iZ p)), some (.int (iZ m)), some (.int (iZ q))] 0 rfl rfl (Nat.le_of_ble_eq_true rfl) ?_
  intro K h hF
  refine V_iload_n h (dk dd_X11_add_0 0 rfl) rfl get1 ?_
  refine V_iload_n h (dk dd_X11_add_0 1 rfl) rfl get2 ?_
  refine V_iload_n h (dk dd_X11_add_0 2 rfl) rfl get3 ?_
  refine V_iload h (dk dd_X11_add_0 3 rfl) get4 ?_
  refine V_callS h st4 ci_X11_37 pk_n rfl (m_X4_isAllowed l G _ _ _ _ (by omega) (by omega) (by omega) (by omega)) rfl rfl (Nat.le_of_ble_eq_true rfl) (by decide) ⟨rfl, rfl, rfl⟩ (dk dd_X11_add_0 4 rfl) sk1 sm_n ?_
  refine V_ifz_ne (tgt := 14) h (dk dd_X11_add_0 5 rfl) rfl (fun c8 => ?_) (fun c8 => ?_)
  · refine V_aload_n h (dk dd_X11_add_0 8 rfl) rfl get0 ?_
    refine V_get h fl_X11_10 0 get0 get0 (dk dd_X11_add_0 9 rfl) ?_
    refine V_get h fl_X11_44 1 get1 get0 (dk dd_X11_add_0 10 rfl) ?_
    refine V_get h fl_X11_48 2 get2 get1 (dk dd_X11_add_0 11 rfl) ?_
    refine V_bipush h (dk dd_X11_add_0 12 rfl) (by decide) ?_
    refine V_icmp_lt (tgt := 32) h (dk dd_X11_add_0 13 rfl) rfl (by omega) (fun c26 => ?_) (fun c26 => ?_)
    · exfalso; omega
    · refine V_ldc h q2_33 (dk dd_X11_add_0 14 rfl) ?_
      refine V_iret h hF (dk dd_X11_add_0 15 rfl) ⟨Nat.le_of_ble_eq_true rfl, Nat.le_of_ble_eq_true rfl⟩ ?_
      exact det_i (by first | rfl | omega) rfl
  · exact absurd hA c8

set_option maxHeartbeats 4000000 in
set_option maxRecDepth 100000 in
theorem m_add_ok (l : Launch) (G : GT) (x w hi tx sh : Nat) (pw aw : Nat) (n lo2 z : Int) (f : Int → Int) (sa : Nat) (wa pa aa : Nat → Nat) (N L T : Nat → Int) (F : Nat → Int → Int) (c : Int) (k p m q : Int) (hn : 0 ≤ n ∧ n ≤ 12) (hc : 0 ≤ c ∧ c ≤ 5) (hk : R32 k) (hp : R32 p) (hm : R32 m) (hq : R32 q) (hA : allowP k p m q) (h12 : n < 12) : Ctr l G yX11_add cX11_add 5 (Option.some FieldType.int) (rmO 4 0 0 81) [.ref x, .int (iZ k), .int (iZ p), .int (iZ m), .int (iZ q)] [(x, .inr (10, [.ref w, .ref hi, .ref tx, .ref sh])), (w, .inr (9, [.ref pw, .int (iZ lo2), .int (iZ z)])), (pw, .inr (3, [.ref aw, .int (iZ n)])), (aw, .inl (G.2 0, 48, .inl (iF f))), (hi, .inr (1, [.ref sa, .int (iZ c)])), (sa, .inl (G.2 5, 5, .inr (.inr (.inr (.inr (arr5 wa)))))), ((wa 0), .inr (9, [.ref (pa 0), .int (iZ (L 0)), .int (iZ (T 0))])), ((pa 0), .inr (3, [.ref (aa 0), .int (iZ (N 0))])), ((aa 0), .inl (G.2 0, 48, .inl (iF (F 0)))), ((wa 1), .inr (9, [.ref (pa 1), .int (iZ (L 1)), .int (iZ (T 1))])), ((pa 1), .inr (3, [.ref (aa 1), .int (iZ (N 1))])), ((aa 1), .inl (G.2 0, 48, .inl (iF (F 1)))), ((wa 2), .inr (9, [.ref (pa 2), .int (iZ (L 2)), .int (iZ (T 2))])), ((pa 2), .inr (3, [.ref (aa 2), .int (iZ (N 2))])), ((aa 2), .inl (G.2 0, 48, .inl (iF (F 2)))), ((wa 3), .inr (9, [.ref (pa 3), .int (iZ (L 3)), .int (iZ (T 3))])), ((pa 3), .inr (3, [.ref (aa 3), .int (iZ (N 3))])), ((aa 3), .inl (G.2 0, 48, .inl (iF (F 3)))), ((wa 4), .inr (9, [.ref (pa 4), .int (iZ (L 4)), .int (iZ (T 4))])), ((pa 4), .inr (3, [.ref (aa 4), .int (iZ (N 4))])), ((aa 4), .inl (G.2 0, 48, .inl (iF (F 4))))] (Det (some (.int (iZ n))) [(x, .inr (10, [.ref w, .ref hi, .ref tx, .ref sh])), (w, .inr (9, [.ref pw, .int (iZ lo2), .int (iZ z)])), (pw, .inr (3, [.ref aw, .int (iZ (n + 1))])), (aw, .inl (G.2 0, 48, .inl (iF (appF f n k p m q)))), (hi, .inr (1, [.ref sa, .int (iZ (kc c))])), (sa, .inl (G.2 5, 5, .inr (.inr (.inr (.inr (arr5 (rk wa c))))))), (((rk wa c) 0), .inr (9, [.ref ((rk pa c) 0), .int (iZ ((kp L c lo2) 0)), .int (iZ ((kp T c z) 0))])), (((rk pa c) 0), .inr (3, [.ref ((rk aa c) 0), .int (iZ ((kp N c n) 0))])), (((rk aa c) 0), .inl (G.2 0, 48, .inl (iF ((kp F c (cpyF f (oldF F c) 0 0 (n * 4))) 0)))), (((rk wa c) 1), .inr (9, [.ref ((rk pa c) 1), .int (iZ ((kp L c lo2) 1)), .int (iZ ((kp T c z) 1))])), (((rk pa c) 1), .inr (3, [.ref ((rk aa c) 1), .int (iZ ((kp N c n) 1))])), (((rk aa c) 1), .inl (G.2 0, 48, .inl (iF ((kp F c (cpyF f (oldF F c) 0 0 (n * 4))) 1)))), (((rk wa c) 2), .inr (9, [.ref ((rk pa c) 2), .int (iZ ((kp L c lo2) 2)), .int (iZ ((kp T c z) 2))])), (((rk pa c) 2), .inr (3, [.ref ((rk aa c) 2), .int (iZ ((kp N c n) 2))])), (((rk aa c) 2), .inl (G.2 0, 48, .inl (iF ((kp F c (cpyF f (oldF F c) 0 0 (n * 4))) 2)))), (((rk wa c) 3), .inr (9, [.ref ((rk pa c) 3), .int (iZ ((kp L c lo2) 3)), .int (iZ ((kp T c z) 3))])), (((rk pa c) 3), .inr (3, [.ref ((rk aa c) 3), .int (iZ ((kp N c n) 3))])), (((rk aa c) 3), .inl (G.2 0, 48, .inl (iF ((kp F c (cpyF f (oldF F c) 0 0 (n * 4))) 3)))), (((rk wa c) 4), .inr (9, [.ref ((rk pa c) 4), .int (iZ ((kp L c lo2) 4)), .int (iZ ((kp T c z) 4))])), (((rk pa c) 4), .inr (3, [.ref ((rk aa c) 4), .int (iZ ((kp N c n) 4))])), (((rk aa c) 4), .inl (G.2 0, 48, .inl (iF ((kp F c (cpyF f (oldF F c) 0 0 (n * 4))) 4))))]) := by
  refine Ctr.go (own := RX11) (nm := "add") (by decide +kernel) rfl rfl [some (.ref x), some (.int (iZ k)), some (.int (iZ p)), some (.int (iZ m)), some (.int (iZ q))] 0 rfl rfl (Nat.le_of_ble_eq_true rfl) ?_
  intro K h hF
  refine V_iload_n h (dk dd_X11_add_0 0 rfl) rfl get1 ?_
  refine V_iload_n h (dk dd_X11_add_0 1 rfl) rfl get2 ?_
  refine V_iload_n h (dk dd_X11_add_0 2 rfl) rfl get3 ?_
  refine V_iload h (dk dd_X11_add_0 3 rfl) get4 ?_
  refine V_callS h st4 ci_X11_37 pk_n rfl (m_X4_isAllowed l G _ _ _ _ (by omega) (by omega) (by omega) (by omega)) rfl rfl (Nat.le_of_ble_eq_true rfl) (by decide) ⟨rfl, rfl, rfl⟩ (dk dd_X11_add_0 4 rfl) sk1 sm_n ?_
  refine V_ifz_ne (tgt := 14) h (dk dd_X11_add_0 5 rfl) rfl (fun c8 => ?_) (fun c8 => ?_)
  · refine V_aload_n h (dk dd_X11_add_0 8 rfl) rfl get0 ?_
    refine V_get h fl_X11_10 0 get0 get0 (dk dd_X11_add_0 9 rfl) ?_
    refine V_get h fl_X11_44 1 get1 get0 (dk dd_X11_add_0 10 rfl) ?_
    refine V_get h fl_X11_48 2 get2 get1 (dk dd_X11_add_0 11 rfl) ?_
    refine V_bipush h (dk dd_X11_add_0 12 rfl) (by decide) ?_
    refine V_icmp_lt (tgt := 32) h (dk dd_X11_add_0 13 rfl) rfl (by omega) (fun c26 => ?_) (fun c26 => ?_)
    · refine V_aload_n h (dk dd_X11_add_0 16 rfl) rfl get0 ?_
      refine V_get h fl_X11_19 0 get0 get1 (dk dd_X11_add_0 17 rfl) ?_
      refine V_aload_n h (dk dd_X11_add_0 18 rfl) rfl get0 ?_
      refine V_get h fl_X11_10 0 get0 get0 (dk dd_X11_add_0 19 rfl) ?_
      refine V_callV h st2 ci_X11_53 (pk_c get4 (pk_c get5 (pk_c get6 (pk_c get7 (pk_c get8 (pk_c get9 (pk_c get10 (pk_c get11 (pk_c get12 (pk_c get13 (pk_c get14 (pk_c get15 (pk_c get16 (pk_c get17 (pk_c get18 (pk_c get19 (pk_c get20 (pk_c get1 (pk_c get2 (pk_c get3 pk_n)))))))))))))))))))) rfl 4 get4 rfl (m_X2_keep l G _ _ _ _ _ _ _ _ _ _ _ _ _ _ _ _ _ (by omega) (by omega)) rfl rfl (Nat.le_of_ble_eq_true rfl) (by decide) ⟨rfl, rfl, rfl⟩ (dk dd_X11_add_0 20 rfl) sk0 (sm_c set4 (sm_c set5 (sm_c set6 (sm_c set7 (sm_c set8 (sm_c set9 (sm_c set10 (sm_c set11 (sm_c set12 (sm_c set13 (sm_c set14 (sm_c set15 (sm_c set16 (sm_c set17 (sm_c set18 (sm_c set19 (sm_c set20 (sm_c set1 (sm_c set2 (sm_c set3 sm_n)))))))))))))))))))) ?_
      refine V_aload_n h (dk dd_X11_add_0 21 rfl) rfl get0 ?_
      refine V_get h fl_X11_10 0 get0 get0 (dk dd_X11_add_0 22 rfl) ?_
      refine V_get h fl_X11_44 1 get1 get0 (dk dd_X11_add_0 23 rfl) ?_
      refine V_iload_n h (dk dd_X11_add_0 24 rfl) rfl get1 ?_
      refine V_iload_n h (dk dd_X11_add_0 25 rfl) rfl get2 ?_
      refine V_iload_n h (dk dd_X11_add_0 26 rfl) rfl get3 ?_
      refine V_iload h (dk dd_X11_add_0 27 rfl) get4 ?_
      refine V_callV h st5 ci_X11_57 (pk_c get2 (pk_c get3 pk_n)) rfl 2 get2 rfl (m_X4_append l G _ _ _ _ _ _ _ _ (by omega)) rfl rfl (Nat.le_of_ble_eq_true rfl) (by decide) ⟨rfl, rfl, rfl⟩ (dk dd_X11_add_0 28 rfl) sk0 (sm_c set2 (sm_c set3 sm_n)) ?_
      refine V_aload_n h (dk dd_X11_add_0 29 rfl) rfl get0 ?_
      refine V_get h fl_X11_10 0 get0 get0 (dk dd_X11_add_0 30 rfl) ?_
      refine V_get h fl_X11_44 1 get1 get0 (dk dd_X11_add_0 31 rfl) ?_
      refine V_get h fl_X11_48 2 get2 get1 (dk dd_X11_add_0 32 rfl) ?_
      refine V_iconst h (dk dd_X11_add_0 33 rfl) ?_
      refine V_isub h (dk dd_X11_add_0 34 rfl) ?_
      refine V_iret h hF (dk dd_X11_add_0 35 rfl) ⟨Nat.le_of_ble_eq_true rfl, Nat.le_of_ble_eq_true rfl⟩ ?_
      exact det_i (by first | rfl | omega) rfl
    · exfalso; omega
  · exact absurd hA c8

set_option maxHeartbeats 4000000 in
set_option maxRecDepth 100000 in
theorem m_remove_bad (l : Launch) (G : GT) (x w hi tx sh : Nat) (pw aw : Nat) (n lo2 z : Int) (f : Int → Int) (sa : Nat) (wa pa aa : Nat → Nat) (N L T : Nat → Int) (F : Nat → Int → Int) (c : Int) (k : Int) (hn : 0 ≤ n ∧ n ≤ 12) (hc : 0 ≤ c ∧ c ≤ 5) (hk : R32 k) (hA : ¬ (0 ≤ k ∧ k < n)) : Ctr l G yX11_remove cX11_remove 2 (Option.some FieldType.int) (rmO 4 0 0 81) [.ref x, .int (iZ k)] [(x, .inr (10, [.ref w, .ref hi, .ref tx, .ref sh])), (w, .inr (9, [.ref pw, .int (iZ lo2), .int (iZ z)])), (pw, .inr (3, [.ref aw, .int (iZ n)])), (aw, .inl (G.2 0, 48, .inl (iF f))), (hi, .inr (1, [.ref sa, .int (iZ c)])), (sa, .inl (G.2 5, 5, .inr (.inr (.inr (.inr (arr5 wa)))))), ((wa 0), .inr (9, [.ref (pa 0), .int (iZ (L 0)), .int (iZ (T 0))])), ((pa 0), .inr (3, [.ref (aa 0), .int (iZ (N 0))])), ((aa 0), .inl (G.2 0, 48, .inl (iF (F 0)))), ((wa 1), .inr (9, [.ref (pa 1), .int (iZ (L 1)), .int (iZ (T 1))])), ((pa 1), .inr (3, [.ref (aa 1), .int (iZ (N 1))])), ((aa 1), .inl (G.2 0, 48, .inl (iF (F 1)))), ((wa 2), .inr (9, [.ref (pa 2), .int (iZ (L 2)), .int (iZ (T 2))])), ((pa 2), .inr (3, [.ref (aa 2), .int (iZ (N 2))])), ((aa 2), .inl (G.2 0, 48, .inl (iF (F 2)))), ((wa 3), .inr (9, [.ref (pa 3), .int (iZ (L 3)), .int (iZ (T 3))])), ((pa 3), .inr (3, [.ref (aa 3), .int (iZ (N 3))])), ((aa 3), .inl (G.2 0, 48, .inl (iF (F 3)))), ((wa 4), .inr (9, [.ref (pa 4), .int (iZ (L 4)), .int (iZ (T 4))])), ((pa 4), .inr (3, [.ref (aa 4), .int (iZ (N 4))])), ((aa 4), .inl (G.2 0, 48, .inl (iF (F 4))))] (Det (some (.int (iZ (-100001)))) [(x, .inr (10, [.ref w, .ref hi, .ref tx, .ref sh])), (w, .inr (9, [.ref pw, .int (iZ lo2), .int (iZ z)])), (pw, .inr (3, [.ref aw, .int (iZ n)])), (aw, .inl (G.2 0, 48, .inl (iF f))), (hi, .inr (1, [.ref sa, .int (iZ c)])), (sa, .inl (G.2 5, 5, .inr (.inr (.inr (.inr (arr5 wa)))))), ((wa 0), .inr (9, [.ref (pa 0), .int (iZ (L 0)), .int (iZ (T 0))])), ((pa 0), .inr (3, [.ref (aa 0), .int (iZ (N 0))])), ((aa 0), .inl (G.2 0, 48, .inl (iF (F 0)))), ((wa 1), .inr (9, [.ref (pa 1), .int (iZ (L 1)), .int (iZ (T 1))])), ((pa 1), .inr (3, [.ref (aa 1), .int (iZ (N 1))])), ((aa 1), .inl (G.2 0, 48, .inl (iF (F 1)))), ((wa 2), .inr (9, [.ref (pa 2), .int (iZ (L 2)), .int (iZ (T 2))])), ((pa 2), .inr (3, [.ref (aa 2), .int (iZ (N 2))])), ((aa 2), .inl (G.2 0, 48, .inl (iF (F 2)))), ((wa 3), .inr (9, [.ref (pa 3), .int (iZ (L 3)), .int (iZ (T 3))])), ((pa 3), .inr (3, [.ref (aa 3), .int (iZ (N 3))])), ((aa 3), .inl (G.2 0, 48, .inl (iF (F 3)))), ((wa 4), .inr (9, [.ref (pa 4), .int (iZ (L 4)), .int (iZ (T 4))])), ((pa 4), .inr (3, [.ref (aa 4), .int (iZ (N 4))])), ((aa 4), .inl (G.2 0, 48, .inl (iF (F 4))))]) := by
  refine Ctr.go (own := RX11) (nm := "remove") (by decide +kernel) rfl rfl [some (.ref x), some (.int (iZ k))] 0 rfl rfl (Nat.le_of_ble_eq_true rfl) ?_
  intro K h hF
  refine V_aload_n h (dk dd_X11_remove_0 0 rfl) rfl get0 ?_
  refine V_get h fl_X11_10 0 get0 get0 (dk dd_X11_remove_0 1 rfl) ?_
  refine V_get h fl_X11_44 1 get1 get0 (dk dd_X11_remove_0 2 rfl) ?_
  refine V_iload_n h (dk dd_X11_remove_0 3 rfl) rfl get1 ?_
  refine V_callV h st2 ci_X11_61 (pk_c get2 (pk_c get3 pk_n)) rfl 2 get2 rfl (m_X4_has l G _ _ _ _ _ (by omega) (by omega)) rfl rfl (Nat.le_of_ble_eq_true rfl) (by decide) ⟨rfl, rfl, rfl⟩ (dk dd_X11_remove_0 4 rfl) sk1 (sm_c set2 (sm_c set3 sm_n)) ?_
  refine V_ifz_ne (tgt := 17) h (dk dd_X11_remove_0 5 rfl) rfl (fun c11 => ?_) (fun c11 => ?_)
  · exact absurd c11 hA
  · refine V_ldc h q2_32 (dk dd_X11_remove_0 6 rfl) ?_
    refine V_iret h hF (dk dd_X11_remove_0 7 rfl) ⟨Nat.le_of_ble_eq_true rfl, Nat.le_of_ble_eq_true rfl⟩ ?_
    exact det_i (by first | rfl | omega) rfl

set_option maxHeartbeats 4000000 in
set_option maxRecDepth 100000 in
theorem m_remove_ok (l : Launch) (G : GT) (x w hi tx sh : Nat) (pw aw : Nat) (n lo2 z : Int) (f : Int → Int) (sa : Nat) (wa pa aa : Nat → Nat) (N L T : Nat → Int) (F : Nat → Int → Int) (c : Int) (k : Int) (hn : 0 ≤ n ∧ n ≤ 12) (hc : 0 ≤ c ∧ c ≤ 5) (hk : R32 k) (hA : 0 ≤ k ∧ k < n) : Ctr l G yX11_remove cX11_remove 2 (Option.some FieldType.int) (rmO 4 0 0 81) [.ref x, .int (iZ k)] [(x, .inr (10, [.ref w, .ref hi, .ref tx, .ref sh])), (w, .inr (9, [.ref pw, .int (iZ lo2), .int (iZ z)])), (pw, .inr (3, [.ref aw, .int (iZ n)])), (aw, .inl (G.2 0, 48, .inl (iF f))), (hi, .inr (1, [.ref sa, .int (iZ c)])), (sa, .inl (G.2 5, 5, .inr (.inr (.inr (.inr (arr5 wa)))))), ((wa 0), .inr (9, [.ref (pa 0), .int (iZ (L 0)), .int (iZ (T 0))])), ((pa 0), .inr (3, [.ref (aa 0), .int (iZ (N 0))])), ((aa 0), .inl (G.2 0, 48, .inl (iF (F 0)))), ((wa 1), .inr (9, [.ref (pa 1), .int (iZ (L 1)), .int (iZ (T 1))])), ((pa 1), .inr (3, [.ref (aa 1), .int (iZ (N 1))])), ((aa 1), .inl (G.2 0, 48, .inl (iF (F 1)))), ((wa 2), .inr (9, [.ref (pa 2), .int (iZ (L 2)), .int (iZ (T 2))])), ((pa 2), .inr (3, [.ref (aa 2), .int (iZ (N 2))])), ((aa 2), .inl (G.2 0, 48, .inl (iF (F 2)))), ((wa 3), .inr (9, [.ref (pa 3), .int (iZ (L 3)), .int (iZ (T 3))])), ((pa 3), .inr (3, [.ref (aa 3), .int (iZ (N 3))])), ((aa 3), .inl (G.2 0, 48, .inl (iF (F 3)))), ((wa 4), .inr (9, [.ref (pa 4), .int (iZ (L 4)), .int (iZ (T 4))])), ((pa 4), .inr (3, [.ref (aa 4), .int (iZ (N 4))])), ((aa 4), .inl (G.2 0, 48, .inl (iF (F 4))))] (Det (some (.int (iZ (n - 1)))) [(x, .inr (10, [.ref w, .ref hi, .ref tx, .ref sh])), (w, .inr (9, [.ref pw, .int (iZ lo2), .int (iZ z)])), (pw, .inr (3, [.ref aw, .int (iZ (n - 1))])), (aw, .inl (G.2 0, 48, .inl (iF (cpyF f f (k * 4 + 4) (k * 4) (n * 4 - (k * 4 + 4)))))), (hi, .inr (1, [.ref sa, .int (iZ (kc c))])), (sa, .inl (G.2 5, 5, .inr (.inr (.inr (.inr (arr5 (rk wa c))))))), (((rk wa c) 0), .inr (9, [.ref ((rk pa c) 0), .int (iZ ((kp L c lo2) 0)), .int (iZ ((kp T c z) 0))])), (((rk pa c) 0), .inr (3, [.ref ((rk aa c) 0), .int (iZ ((kp N c n) 0))])), (((rk aa c) 0), .inl (G.2 0, 48, .inl (iF ((kp F c (cpyF f (oldF F c) 0 0 (n * 4))) 0)))), (((rk wa c) 1), .inr (9, [.ref ((rk pa c) 1), .int (iZ ((kp L c lo2) 1)), .int (iZ ((kp T c z) 1))])), (((rk pa c) 1), .inr (3, [.ref ((rk aa c) 1), .int (iZ ((kp N c n) 1))])), (((rk aa c) 1), .inl (G.2 0, 48, .inl (iF ((kp F c (cpyF f (oldF F c) 0 0 (n * 4))) 1)))), (((rk wa c) 2), .inr (9, [.ref ((rk pa c) 2), .int (iZ ((kp L c lo2) 2)), .int (iZ ((kp T c z) 2))])), (((rk pa c) 2), .inr (3, [.ref ((rk aa c) 2), .int (iZ ((kp N c n) 2))])), (((rk aa c) 2), .inl (G.2 0, 48, .inl (iF ((kp F c (cpyF f (oldF F c) 0 0 (n * 4))) 2)))), (((rk wa c) 3), .inr (9, [.ref ((rk pa c) 3), .int (iZ ((kp L c lo2) 3)), .int (iZ ((kp T c z) 3))])), (((rk pa c) 3), .inr (3, [.ref ((rk aa c) 3), .int (iZ ((kp N c n) 3))])), (((rk aa c) 3), .inl (G.2 0, 48, .inl (iF ((kp F c (cpyF f (oldF F c) 0 0 (n * 4))) 3)))), (((rk wa c) 4), .inr (9, [.ref ((rk pa c) 4), .int (iZ ((kp L c lo2) 4)), .int (iZ ((kp T c z) 4))])), (((rk pa c) 4), .inr (3, [.ref ((rk aa c) 4), .int (iZ ((kp N c n) 4))])), (((rk aa c) 4), .inl (G.2 0, 48, .inl (iF ((kp F c (cpyF f (oldF F c) 0 0 (n * 4))) 4))))]) := by
  refine Ctr.go (own := RX11) (nm := "remove") (by decide +kernel) rfl rfl [some (.ref x), some (.int (iZ k))] 0 rfl rfl (Nat.le_of_ble_eq_true rfl) ?_
  intro K h hF
  refine V_aload_n h (dk dd_X11_remove_0 0 rfl) rfl get0 ?_
  refine V_get h fl_X11_10 0 get0 get0 (dk dd_X11_remove_0 1 rfl) ?_
  refine V_get h fl_X11_44 1 get1 get0 (dk dd_X11_remove_0 2 rfl) ?_
  refine V_iload_n h (dk dd_X11_remove_0 3 rfl) rfl get1 ?_
  refine V_callV h st2 ci_X11_61 (pk_c get2 (pk_c get3 pk_n)) rfl 2 get2 rfl (m_X4_has l G _ _ _ _ _ (by omega) (by omega)) rfl rfl (Nat.le_of_ble_eq_true rfl) (by decide) ⟨rfl, rfl, rfl⟩ (dk dd_X11_remove_0 4 rfl) sk1 (sm_c set2 (sm_c set3 sm_n)) ?_
  refine V_ifz_ne (tgt := 17) h (dk dd_X11_remove_0 5 rfl) rfl (fun c11 => ?_) (fun c11 => ?_)
  · refine V_aload_n h (dk dd_X11_remove_0 8 rfl) rfl get0 ?_
    refine V_get h fl_X11_19 0 get0 get1 (dk dd_X11_remove_0 9 rfl) ?_
    refine V_aload_n h (dk dd_X11_remove_0 10 rfl) rfl get0 ?_
    refine V_get h fl_X11_10 0 get0 get0 (dk dd_X11_remove_0 11 rfl) ?_
    refine V_callV h st2 ci_X11_53 (pk_c get4 (pk_c get5 (pk_c get6 (pk_c get7 (pk_c get8 (pk_c get9 (pk_c get10 (pk_c get11 (pk_c get12 (pk_c get13 (pk_c get14 (pk_c get15 (pk_c get16 (pk_c get17 (pk_c get18 (pk_c get19 (pk_c get20 (pk_c get1 (pk_c get2 (pk_c get3 pk_n)))))))))))))))))))) rfl 4 get4 rfl (m_X2_keep l G _ _ _ _ _ _ _ _ _ _ _ _ _ _ _ _ _ (by omega) (by omega)) rfl rfl (Nat.le_of_ble_eq_true rfl) (by decide) ⟨rfl, rfl, rfl⟩ (dk dd_X11_remove_0 12 rfl) sk0 (sm_c set4 (sm_c set5 (sm_c set6 (sm_c set7 (sm_c set8 (sm_c set9 (sm_c set10 (sm_c set11 (sm_c set12 (sm_c set13 (sm_c set14 (sm_c set15 (sm_c set16 (sm_c set17 (sm_c set18 (sm_c set19 (sm_c set20 (sm_c set1 (sm_c set2 (sm_c set3 sm_n)))))))))))))))))))) ?_
    refine V_aload_n h (dk dd_X11_remove_0 13 rfl) rfl get0 ?_
    refine V_get h fl_X11_10 0 get0 get0 (dk dd_X11_remove_0 14 rfl) ?_
    refine V_get h fl_X11_44 1 get1 get0 (dk dd_X11_remove_0 15 rfl) ?_
    refine V_iload_n h (dk dd_X11_remove_0 16 rfl) rfl get1 ?_
    refine V_callV h st2 ci_X11_65 (pk_c get2 (pk_c get3 pk_n)) rfl 2 get2 rfl (m_X4_takeOut l G _ _ _ _ _ (by omega) (by omega)) rfl rfl (Nat.le_of_ble_eq_true rfl) (by decide) ⟨rfl, rfl, rfl⟩ (dk dd_X11_remove_0 17 rfl) sk0 (sm_c set2 (sm_c set3 sm_n)) ?_
    refine V_aload_n h (dk dd_X11_remove_0 18 rfl) rfl get0 ?_
    refine V_get h fl_X11_10 0 get0 get0 (dk dd_X11_remove_0 19 rfl) ?_
    refine V_get h fl_X11_44 1 get1 get0 (dk dd_X11_remove_0 20 rfl) ?_
    refine V_get h fl_X11_48 2 get2 get1 (dk dd_X11_remove_0 21 rfl) ?_
    refine V_iret h hF (dk dd_X11_remove_0 22 rfl) ⟨Nat.le_of_ble_eq_true rfl, Nat.le_of_ble_eq_true rfl⟩ ?_
    exact det_i (by first | rfl | omega) rfl
  · exact absurd hA c11

set_option maxHeartbeats 4000000 in
set_option maxRecDepth 100000 in
theorem m_X11_part (l : Launch) (G : GT) (x w hi tx sh : Nat) (pw aw : Nat) (n lo2 z : Int) (f : Int → Int) (k j : Int) (hn : 0 ≤ n ∧ n ≤ 12) (hk : R32 k) (hj : R32 j) : Ctr l G yX11_part cX11_part 3 (Option.some FieldType.int) (rmO 2 0 0 43) [.ref x, .int (iZ k), .int (iZ j)] [(x, .inr (10, [.ref w, .ref hi, .ref tx, .ref sh])), (w, .inr (9, [.ref pw, .int (iZ lo2), .int (iZ z)])), (pw, .inr (3, [.ref aw, .int (iZ n)])), (aw, .inl (G.2 0, 48, .inl (iF f)))] (Det (some (.int (iZ (numF n f k j)))) [(x, .inr (10, [.ref w, .ref hi, .ref tx, .ref sh])), (w, .inr (9, [.ref pw, .int (iZ lo2), .int (iZ z)])), (pw, .inr (3, [.ref aw, .int (iZ n)])), (aw, .inl (G.2 0, 48, .inl (iF f)))]) := by
  refine Ctr.go (own := RX11) (nm := "part") (by decide +kernel) rfl rfl [some (.ref x), some (.int (iZ k)), some (.int (iZ j))] 0 rfl rfl (Nat.le_of_ble_eq_true rfl) ?_
  intro K h hF
  refine V_aload_n h (dk dd_X11_part_0 0 rfl) rfl get0 ?_
  refine V_get h fl_X11_10 0 get0 get0 (dk dd_X11_part_0 1 rfl) ?_
  refine V_get h fl_X11_44 1 get1 get0 (dk dd_X11_part_0 2 rfl) ?_
  refine V_iload_n h (dk dd_X11_part_0 3 rfl) rfl get1 ?_
  refine V_iload_n h (dk dd_X11_part_0 4 rfl) rfl get2 ?_
  refine V_callV h st3 ci_X11_69 (pk_c get2 (pk_c get3 pk_n)) rfl 2 get2 rfl (m_X4_numberOf l G _ _ _ _ _ _ (by omega) (by omega) (by omega)) rfl rfl (Nat.le_of_ble_eq_true rfl) (by decide) ⟨rfl, rfl, rfl⟩ (dk dd_X11_part_0 5 rfl) sk1 (sm_c set2 (sm_c set3 sm_n)) ?_
  refine V_iret h hF (dk dd_X11_part_0 6 rfl) ⟨Nat.le_of_ble_eq_true rfl, Nat.le_of_ble_eq_true rfl⟩ ?_
  exact det_i (by first | rfl | omega) rfl

set_option maxHeartbeats 4000000 in
set_option maxRecDepth 100000 in
theorem m_X11_parts (l : Launch) (G : GT) (x w hi tx sh : Nat) (pw aw : Nat) (n lo2 z : Int) (f : Int → Int)  : Ctr l G yX11_parts cX11_parts 1 (Option.some FieldType.int) (rmO 0 0 0 0) [.ref x] [(x, .inr (10, [.ref w, .ref hi, .ref tx, .ref sh])), (w, .inr (9, [.ref pw, .int (iZ lo2), .int (iZ z)])), (pw, .inr (3, [.ref aw, .int (iZ n)])), (aw, .inl (G.2 0, 48, .inl (iF f)))] (Det (some (.int (iZ n))) [(x, .inr (10, [.ref w, .ref hi, .ref tx, .ref sh])), (w, .inr (9, [.ref pw, .int (iZ lo2), .int (iZ z)])), (pw, .inr (3, [.ref aw, .int (iZ n)])), (aw, .inl (G.2 0, 48, .inl (iF f)))]) := by
  refine Ctr.go (own := RX11) (nm := "parts") (by decide +kernel) rfl rfl [some (.ref x)] 0 rfl rfl (Nat.le_of_ble_eq_true rfl) ?_
  intro K h hF
  refine V_aload_n h (dk dd_X11_parts_0 0 rfl) rfl get0 ?_
  refine V_get h fl_X11_10 0 get0 get0 (dk dd_X11_parts_0 1 rfl) ?_
  refine V_get h fl_X11_44 1 get1 get0 (dk dd_X11_parts_0 2 rfl) ?_
  refine V_get h fl_X11_48 2 get2 get1 (dk dd_X11_parts_0 3 rfl) ?_
  refine V_iret h hF (dk dd_X11_parts_0 4 rfl) ⟨Nat.le_of_ble_eq_true rfl, Nat.le_of_ble_eq_true rfl⟩ ?_
  exact det_i (by first | rfl | omega) rfl

set_option maxHeartbeats 4000000 in
set_option maxRecDepth 100000 in
theorem m_setLoss_bad (l : Launch) (G : GT) (x w hi tx sh : Nat) (pw aw : Nat) (n lo2 z : Int) (f : Int → Int) (sa : Nat) (wa pa aa : Nat → Nat) (N L T : Nat → Int) (F : Nat → Int → Int) (c : Int) (k : Int) (hn : 0 ≤ n ∧ n ≤ 12) (hc : 0 ≤ c ∧ c ≤ 5) (hk : R32 k) (hA : ¬ (0 ≤ k ∧ k ≤ 999)) : Ctr l G yX11_setLoss cX11_setLoss 3 (Option.some FieldType.int) (rmO 4 0 0 81) [.ref x, .int (iZ k)] [(x, .inr (10, [.ref w, .ref hi, .ref tx, .ref sh])), (w, .inr (9, [.ref pw, .int (iZ lo2), .int (iZ z)])), (pw, .inr (3, [.ref aw, .int (iZ n)])), (aw, .inl (G.2 0, 48, .inl (iF f))), (hi, .inr (1, [.ref sa, .int (iZ c)])), (sa, .inl (G.2 5, 5, .inr (.inr (.inr (.inr (arr5 wa)))))), ((wa 0), .inr (9, [.ref (pa 0), .int (iZ (L 0)), .int (iZ (T 0))])), ((pa 0), .inr (3, [.ref (aa 0), .int (iZ (N 0))])), ((aa 0), .inl (G.2 0, 48, .inl (iF (F 0)))), ((wa 1), .inr (9, [.ref (pa 1), .int (iZ (L 1)), .int (iZ (T 1))])), ((pa 1), .inr (3, [.ref (aa 1), .int (iZ (N 1))])), ((aa 1), .inl (G.2 0, 48, .inl (iF (F 1)))), ((wa 2), .inr (9, [.ref (pa 2), .int (iZ (L 2)), .int (iZ (T 2))])), ((pa 2), .inr (3, [.ref (aa 2), .int (iZ (N 2))])), ((aa 2), .inl (G.2 0, 48, .inl (iF (F 2)))), ((wa 3), .inr (9, [.ref (pa 3), .int (iZ (L 3)), .int (iZ (T 3))])), ((pa 3), .inr (3, [.ref (aa 3), .int (iZ (N 3))])), ((aa 3), .inl (G.2 0, 48, .inl (iF (F 3)))), ((wa 4), .inr (9, [.ref (pa 4), .int (iZ (L 4)), .int (iZ (T 4))])), ((pa 4), .inr (3, [.ref (aa 4), .int (iZ (N 4))])), ((aa 4), .inl (G.2 0, 48, .inl (iF (F 4))))] (Det (some (.int (iZ (-100001)))) [(x, .inr (10, [.ref w, .ref hi, .ref tx, .ref sh])), (w, .inr (9, [.ref pw, .int (iZ lo2), .int (iZ z)])), (pw, .inr (3, [.ref aw, .int (iZ n)])), (aw, .inl (G.2 0, 48, .inl (iF f))), (hi, .inr (1, [.ref sa, .int (iZ c)])), (sa, .inl (G.2 5, 5, .inr (.inr (.inr (.inr (arr5 wa)))))), ((wa 0), .inr (9, [.ref (pa 0), .int (iZ (L 0)), .int (iZ (T 0))])), ((pa 0), .inr (3, [.ref (aa 0), .int (iZ (N 0))])), ((aa 0), .inl (G.2 0, 48, .inl (iF (F 0)))), ((wa 1), .inr (9, [.ref (pa 1), .int (iZ (L 1)), .int (iZ (T 1))])), ((pa 1), .inr (3, [.ref (aa 1), .int (iZ (N 1))])), ((aa 1), .inl (G.2 0, 48, .inl (iF (F 1)))), ((wa 2), .inr (9, [.ref (pa 2), .int (iZ (L 2)), .int (iZ (T 2))])), ((pa 2), .inr (3, [.ref (aa 2), .int (iZ (N 2))])), ((aa 2), .inl (G.2 0, 48, .inl (iF (F 2)))), ((wa 3), .inr (9, [.ref (pa 3), .int (iZ (L 3)), .int (iZ (T 3))])), ((pa 3), .inr (3, [.ref (aa 3), .int (iZ (N 3))])), ((aa 3), .inl (G.2 0, 48, .inl (iF (F 3)))), ((wa 4), .inr (9, [.ref (pa 4), .int (iZ (L 4)), .int (iZ (T 4))])), ((pa 4), .inr (3, [.ref (aa 4), .int (iZ (N 4))])), ((aa 4), .inl (G.2 0, 48, .inl (iF (F 4))))]) := by
  refine Ctr.go (own := RX11) (nm := "setLoss") (by decide +kernel) rfl rfl [some (.ref x), some (.int (iZ k)), none] 1 rfl rfl (Nat.le_of_ble_eq_true rfl) ?_
  intro K h hF
  refine V_iload_n h (dk dd_X11_setLoss_0 0 rfl) rfl get1 ?_
  refine V_if_lt (tgt := 11) h (dk dd_X11_setLoss_0 1 rfl) rfl (by omega) (fun c1 => ?_) (fun c1 => ?_)
  · refine V_ldc h q2_32 (dk dd_X11_setLoss_0 5 rfl) ?_
    refine V_iret h hF (dk dd_X11_setLoss_0 6 rfl) ⟨Nat.le_of_ble_eq_true rfl, Nat.le_of_ble_eq_true rfl⟩ ?_
    exact det_i (by first | rfl | omega) rfl
  · refine V_iload_n h (dk dd_X11_setLoss_0 2 rfl) rfl get1 ?_
    refine V_sipush h (dk dd_X11_setLoss_0 3 rfl) (by decide) ?_
    refine V_icmp_le (tgt := 14) h (dk dd_X11_setLoss_0 4 rfl) rfl (by omega) (fun c8 => ?_) (fun c8 => ?_)
    · exfalso; omega
    · refine V_ldc h q2_32 (dk dd_X11_setLoss_0 5 rfl) ?_
      refine V_iret h hF (dk dd_X11_setLoss_0 6 rfl) ⟨Nat.le_of_ble_eq_true rfl, Nat.le_of_ble_eq_true rfl⟩ ?_
      exact det_i (by first | rfl | omega) rfl

set_option maxHeartbeats 4000000 in
set_option maxRecDepth 100000 in
theorem m_setLoss_ok (l : Launch) (G : GT) (x w hi tx sh : Nat) (pw aw : Nat) (n lo2 z : Int) (f : Int → Int) (sa : Nat) (wa pa aa : Nat → Nat) (N L T : Nat → Int) (F : Nat → Int → Int) (c : Int) (k : Int) (hn : 0 ≤ n ∧ n ≤ 12) (hc : 0 ≤ c ∧ c ≤ 5) (hk : R32 k) (hA : 0 ≤ k ∧ k ≤ 999) : Ctr l G yX11_setLoss cX11_setLoss 3 (Option.some FieldType.int) (rmO 4 0 0 81) [.ref x, .int (iZ k)] [(x, .inr (10, [.ref w, .ref hi, .ref tx, .ref sh])), (w, .inr (9, [.ref pw, .int (iZ lo2), .int (iZ z)])), (pw, .inr (3, [.ref aw, .int (iZ n)])), (aw, .inl (G.2 0, 48, .inl (iF f))), (hi, .inr (1, [.ref sa, .int (iZ c)])), (sa, .inl (G.2 5, 5, .inr (.inr (.inr (.inr (arr5 wa)))))), ((wa 0), .inr (9, [.ref (pa 0), .int (iZ (L 0)), .int (iZ (T 0))])), ((pa 0), .inr (3, [.ref (aa 0), .int (iZ (N 0))])), ((aa 0), .inl (G.2 0, 48, .inl (iF (F 0)))), ((wa 1), .inr (9, [.ref (pa 1), .int (iZ (L 1)), .int (iZ (T 1))])), ((pa 1), .inr (3, [.ref (aa 1), .int (iZ (N 1))])), ((aa 1), .inl (G.2 0, 48, .inl (iF (F 1)))), ((wa 2), .inr (9, [.ref (pa 2), .int (iZ (L 2)), .int (iZ (T 2))])), ((pa 2), .inr (3, [.ref (aa 2), .int (iZ (N 2))])), ((aa 2), .inl (G.2 0, 48, .inl (iF (F 2)))), ((wa 3), .inr (9, [.ref (pa 3), .int (iZ (L 3)), .int (iZ (T 3))])), ((pa 3), .inr (3, [.ref (aa 3), .int (iZ (N 3))])), ((aa 3), .inl (G.2 0, 48, .inl (iF (F 3)))), ((wa 4), .inr (9, [.ref (pa 4), .int (iZ (L 4)), .int (iZ (T 4))])), ((pa 4), .inr (3, [.ref (aa 4), .int (iZ (N 4))])), ((aa 4), .inl (G.2 0, 48, .inl (iF (F 4))))] (Det (some (.int (iZ lo2))) [(x, .inr (10, [.ref w, .ref hi, .ref tx, .ref sh])), (w, .inr (9, [.ref pw, .int (iZ k), .int (iZ z)])), (pw, .inr (3, [.ref aw, .int (iZ n)])), (aw, .inl (G.2 0, 48, .inl (iF f))), (hi, .inr (1, [.ref sa, .int (iZ (kc c))])), (sa, .inl (G.2 5, 5, .inr (.inr (.inr (.inr (arr5 (rk wa c))))))), (((rk wa c) 0), .inr (9, [.ref ((rk pa c) 0), .int (iZ ((kp L c lo2) 0)), .int (iZ ((kp T c z) 0))])), (((rk pa c) 0), .inr (3, [.ref ((rk aa c) 0), .int (iZ ((kp N c n) 0))])), (((rk aa c) 0), .inl (G.2 0, 48, .inl (iF ((kp F c (cpyF f (oldF F c) 0 0 (n * 4))) 0)))), (((rk wa c) 1), .inr (9, [.ref ((rk pa c) 1), .int (iZ ((kp L c lo2) 1)), .int (iZ ((kp T c z) 1))])), (((rk pa c) 1), .inr (3, [.ref ((rk aa c) 1), .int (iZ ((kp N c n) 1))])), (((rk aa c) 1), .inl (G.2 0, 48, .inl (iF ((kp F c (cpyF f (oldF F c) 0 0 (n * 4))) 1)))), (((rk wa c) 2), .inr (9, [.ref ((rk pa c) 2), .int (iZ ((kp L c lo2) 2)), .int (iZ ((kp T c z) 2))])), (((rk pa c) 2), .inr (3, [.ref ((rk aa c) 2), .int (iZ ((kp N c n) 2))])), (((rk aa c) 2), .inl (G.2 0, 48, .inl (iF ((kp F c (cpyF f (oldF F c) 0 0 (n * 4))) 2)))), (((rk wa c) 3), .inr (9, [.ref ((rk pa c) 3), .int (iZ ((kp L c lo2) 3)), .int (iZ ((kp T c z) 3))])), (((rk pa c) 3), .inr (3, [.ref ((rk aa c) 3), .int (iZ ((kp N c n) 3))])), (((rk aa c) 3), .inl (G.2 0, 48, .inl (iF ((kp F c (cpyF f (oldF F c) 0 0 (n * 4))) 3)))), (((rk wa c) 4), .inr (9, [.ref ((rk pa c) 4), .int (iZ ((kp L c lo2) 4)), .int (iZ ((kp T c z) 4))])), (((rk pa c) 4), .inr (3, [.ref ((rk aa c) 4), .int (iZ ((kp N c n) 4))])), (((rk aa c) 4), .inl (G.2 0, 48, .inl (iF ((kp F c (cpyF f (oldF F c) 0 0 (n * 4))) 4))))]) := by
  refine Ctr.go (own := RX11) (nm := "setLoss") (by decide +kernel) rfl rfl [some (.ref x), some (.int (iZ k)), none] 1 rfl rfl (Nat.le_of_ble_eq_true rfl) ?_
  intro K h hF
  refine V_iload_n h (dk dd_X11_setLoss_0 0 rfl) rfl get1 ?_
  refine V_if_lt (tgt := 11) h (dk dd_X11_setLoss_0 1 rfl) rfl (by omega) (fun c1 => ?_) (fun c1 => ?_)
  · exfalso; omega
  · refine V_iload_n h (dk dd_X11_setLoss_0 2 rfl) rfl get1 ?_
    refine V_sipush h (dk dd_X11_setLoss_0 3 rfl) (by decide) ?_
    refine V_icmp_le (tgt := 14) h (dk dd_X11_setLoss_0 4 rfl) rfl (by omega) (fun c8 => ?_) (fun c8 => ?_)
    · refine V_aload_n h (dk dd_X11_setLoss_0 7 rfl) rfl get0 ?_
      refine V_get h fl_X11_19 0 get0 get1 (dk dd_X11_setLoss_0 8 rfl) ?_
      refine V_aload_n h (dk dd_X11_setLoss_0 9 rfl) rfl get0 ?_
      refine V_get h fl_X11_10 0 get0 get0 (dk dd_X11_setLoss_0 10 rfl) ?_
      refine V_callV h st2 ci_X11_53 (pk_c get4 (pk_c get5 (pk_c get6 (pk_c get7 (pk_c get8 (pk_c get9 (pk_c get10 (pk_c get11 (pk_c get12 (pk_c get13 (pk_c get14 (pk_c get15 (pk_c get16 (pk_c get17 (pk_c get18 (pk_c get19 (pk_c get20 (pk_c get1 (pk_c get2 (pk_c get3 pk_n)))))))))))))))))))) rfl 4 get4 rfl (m_X2_keep l G _ _ _ _ _ _ _ _ _ _ _ _ _ _ _ _ _ (by omega) (by omega)) rfl rfl (Nat.le_of_ble_eq_true rfl) (by decide) ⟨rfl, rfl, rfl⟩ (dk dd_X11_setLoss_0 11 rfl) sk0 (sm_c set4 (sm_c set5 (sm_c set6 (sm_c set7 (sm_c set8 (sm_c set9 (sm_c set10 (sm_c set11 (sm_c set12 (sm_c set13 (sm_c set14 (sm_c set15 (sm_c set16 (sm_c set17 (sm_c set18 (sm_c set19 (sm_c set20 (sm_c set1 (sm_c set2 (sm_c set3 sm_n)))))))))))))))))))) ?_
      refine V_aload_n h (dk dd_X11_setLoss_0 12 rfl) rfl get0 ?_
      refine V_get h fl_X11_10 0 get0 get0 (dk dd_X11_setLoss_0 13 rfl) ?_
      refine V_get h fl_X11_73 1 get1 get1 (dk dd_X11_setLoss_0 14 rfl) ?_
      refine V_istore_n h (dk dd_X11_setLoss_0 15 rfl) rfl (Nat.le_of_ble_eq_true rfl) rfl set2 ?_
      refine V_aload_n h (dk dd_X11_setLoss_0 16 rfl) rfl get0 ?_
      refine V_get h fl_X11_10 0 get0 get0 (dk dd_X11_setLoss_0 17 rfl) ?_
      refine V_iload_n h (dk dd_X11_setLoss_0 18 rfl) rfl get1 ?_
      refine V_put h pf_X11_73 1 get1 (Nat.le_of_ble_eq_true rfl) set1 set1 rfl rfl (dk dd_X11_setLoss_0 19 rfl) ?_
      refine V_iload_n h (dk dd_X11_setLoss_0 20 rfl) rfl get2 ?_
      refine V_iret h hF (dk dd_X11_setLoss_0 21 rfl) ⟨Nat.le_of_ble_eq_true rfl, Nat.le_of_ble_eq_true rfl⟩ ?_
      exact det_i (by first | rfl | omega) rfl
    · exfalso; omega

set_option maxHeartbeats 4000000 in
set_option maxRecDepth 100000 in
theorem m_setThreshold_bad (l : Launch) (G : GT) (x w hi tx sh : Nat) (pw aw : Nat) (n lo2 z : Int) (f : Int → Int) (sa : Nat) (wa pa aa : Nat → Nat) (N L T : Nat → Int) (F : Nat → Int → Int) (c : Int) (k : Int) (hn : 0 ≤ n ∧ n ≤ 12) (hc : 0 ≤ c ∧ c ≤ 5) (hk : R32 k) (hA : ¬ (1 ≤ k ∧ k ≤ 1000000)) : Ctr l G yX11_setThreshold cX11_setThreshold 3 (Option.some FieldType.int) (rmO 4 0 0 81) [.ref x, .int (iZ k)] [(x, .inr (10, [.ref w, .ref hi, .ref tx, .ref sh])), (w, .inr (9, [.ref pw, .int (iZ lo2), .int (iZ z)])), (pw, .inr (3, [.ref aw, .int (iZ n)])), (aw, .inl (G.2 0, 48, .inl (iF f))), (hi, .inr (1, [.ref sa, .int (iZ c)])), (sa, .inl (G.2 5, 5, .inr (.inr (.inr (.inr (arr5 wa)))))), ((wa 0), .inr (9, [.ref (pa 0), .int (iZ (L 0)), .int (iZ (T 0))])), ((pa 0), .inr (3, [.ref (aa 0), .int (iZ (N 0))])), ((aa 0), .inl (G.2 0, 48, .inl (iF (F 0)))), ((wa 1), .inr (9, [.ref (pa 1), .int (iZ (L 1)), .int (iZ (T 1))])), ((pa 1), .inr (3, [.ref (aa 1), .int (iZ (N 1))])), ((aa 1), .inl (G.2 0, 48, .inl (iF (F 1)))), ((wa 2), .inr (9, [.ref (pa 2), .int (iZ (L 2)), .int (iZ (T 2))])), ((pa 2), .inr (3, [.ref (aa 2), .int (iZ (N 2))])), ((aa 2), .inl (G.2 0, 48, .inl (iF (F 2)))), ((wa 3), .inr (9, [.ref (pa 3), .int (iZ (L 3)), .int (iZ (T 3))])), ((pa 3), .inr (3, [.ref (aa 3), .int (iZ (N 3))])), ((aa 3), .inl (G.2 0, 48, .inl (iF (F 3)))), ((wa 4), .inr (9, [.ref (pa 4), .int (iZ (L 4)), .int (iZ (T 4))])), ((pa 4), .inr (3, [.ref (aa 4), .int (iZ (N 4))])), ((aa 4), .inl (G.2 0, 48, .inl (iF (F 4))))] (Det (some (.int (iZ (-100001)))) [(x, .inr (10, [.ref w, .ref hi, .ref tx, .ref sh])), (w, .inr (9, [.ref pw, .int (iZ lo2), .int (iZ z)])), (pw, .inr (3, [.ref aw, .int (iZ n)])), (aw, .inl (G.2 0, 48, .inl (iF f))), (hi, .inr (1, [.ref sa, .int (iZ c)])), (sa, .inl (G.2 5, 5, .inr (.inr (.inr (.inr (arr5 wa)))))), ((wa 0), .inr (9, [.ref (pa 0), .int (iZ (L 0)), .int (iZ (T 0))])), ((pa 0), .inr (3, [.ref (aa 0), .int (iZ (N 0))])), ((aa 0), .inl (G.2 0, 48, .inl (iF (F 0)))), ((wa 1), .inr (9, [.ref (pa 1), .int (iZ (L 1)), .int (iZ (T 1))])), ((pa 1), .inr (3, [.ref (aa 1), .int (iZ (N 1))])), ((aa 1), .inl (G.2 0, 48, .inl (iF (F 1)))), ((wa 2), .inr (9, [.ref (pa 2), .int (iZ (L 2)), .int (iZ (T 2))])), ((pa 2), .inr (3, [.ref (aa 2), .int (iZ (N 2))])), ((aa 2), .inl (G.2 0, 48, .inl (iF (F 2)))), ((wa 3), .inr (9, [.ref (pa 3), .int (iZ (L 3)), .int (iZ (T 3))])), ((pa 3), .inr (3, [.ref (aa 3), .int (iZ (N 3))])), ((aa 3), .inl (G.2 0, 48, .inl (iF (F 3)))), ((wa 4), .inr (9, [.ref (pa 4), .int (iZ (L 4)), .int (iZ (T 4))])), ((pa 4), .inr (3, [.ref (aa 4), .int (iZ (N 4))])), ((aa 4), .inl (G.2 0, 48, .inl (iF (F 4))))]) := by
  refine Ctr.go (own := RX11) (nm := "setThreshold") (by decide +kernel) rfl rfl [some (.ref x), some (.int (iZ k)), none] 1 rfl rfl (Nat.le_of_ble_eq_true rfl) ?_
  intro K h hF
  refine V_iload_n h (dk dd_X11_setThreshold_0 0 rfl) rfl get1 ?_
  refine V_iconst h (dk dd_X11_setThreshold_0 1 rfl) ?_
  refine V_icmp_lt (tgt := 11) h (dk dd_X11_setThreshold_0 2 rfl) rfl (by omega) (fun c2 => ?_) (fun c2 => ?_)
  · refine V_ldc h q2_32 (dk dd_X11_setThreshold_0 6 rfl) ?_
    refine V_iret h hF (dk dd_X11_setThreshold_0 7 rfl) ⟨Nat.le_of_ble_eq_true rfl, Nat.le_of_ble_eq_true rfl⟩ ?_
    exact det_i (by first | rfl | omega) rfl
  · refine V_iload_n h (dk dd_X11_setThreshold_0 3 rfl) rfl get1 ?_
    refine V_ldc h q2_69 (dk dd_X11_setThreshold_0 4 rfl) ?_
    refine V_icmp_le (tgt := 14) h (dk dd_X11_setThreshold_0 5 rfl) rfl (by omega) (fun c8 => ?_) (fun c8 => ?_)
    · exfalso; omega
    · refine V_ldc h q2_32 (dk dd_X11_setThreshold_0 6 rfl) ?_
      refine V_iret h hF (dk dd_X11_setThreshold_0 7 rfl) ⟨Nat.le_of_ble_eq_true rfl, Nat.le_of_ble_eq_true rfl⟩ ?_
      exact det_i (by first | rfl | omega) rfl

set_option maxHeartbeats 4000000 in
set_option maxRecDepth 100000 in
theorem m_setThreshold_ok (l : Launch) (G : GT) (x w hi tx sh : Nat) (pw aw : Nat) (n lo2 z : Int) (f : Int → Int) (sa : Nat) (wa pa aa : Nat → Nat) (N L T : Nat → Int) (F : Nat → Int → Int) (c : Int) (k : Int) (hn : 0 ≤ n ∧ n ≤ 12) (hc : 0 ≤ c ∧ c ≤ 5) (hk : R32 k) (hA : 1 ≤ k ∧ k ≤ 1000000) : Ctr l G yX11_setThreshold cX11_setThreshold 3 (Option.some FieldType.int) (rmO 4 0 0 81) [.ref x, .int (iZ k)] [(x, .inr (10, [.ref w, .ref hi, .ref tx, .ref sh])), (w, .inr (9, [.ref pw, .int (iZ lo2), .int (iZ z)])), (pw, .inr (3, [.ref aw, .int (iZ n)])), (aw, .inl (G.2 0, 48, .inl (iF f))), (hi, .inr (1, [.ref sa, .int (iZ c)])), (sa, .inl (G.2 5, 5, .inr (.inr (.inr (.inr (arr5 wa)))))), ((wa 0), .inr (9, [.ref (pa 0), .int (iZ (L 0)), .int (iZ (T 0))])), ((pa 0), .inr (3, [.ref (aa 0), .int (iZ (N 0))])), ((aa 0), .inl (G.2 0, 48, .inl (iF (F 0)))), ((wa 1), .inr (9, [.ref (pa 1), .int (iZ (L 1)), .int (iZ (T 1))])), ((pa 1), .inr (3, [.ref (aa 1), .int (iZ (N 1))])), ((aa 1), .inl (G.2 0, 48, .inl (iF (F 1)))), ((wa 2), .inr (9, [.ref (pa 2), .int (iZ (L 2)), .int (iZ (T 2))])), ((pa 2), .inr (3, [.ref (aa 2), .int (iZ (N 2))])), ((aa 2), .inl (G.2 0, 48, .inl (iF (F 2)))), ((wa 3), .inr (9, [.ref (pa 3), .int (iZ (L 3)), .int (iZ (T 3))])), ((pa 3), .inr (3, [.ref (aa 3), .int (iZ (N 3))])), ((aa 3), .inl (G.2 0, 48, .inl (iF (F 3)))), ((wa 4), .inr (9, [.ref (pa 4), .int (iZ (L 4)), .int (iZ (T 4))])), ((pa 4), .inr (3, [.ref (aa 4), .int (iZ (N 4))])), ((aa 4), .inl (G.2 0, 48, .inl (iF (F 4))))] (Det (some (.int (iZ z))) [(x, .inr (10, [.ref w, .ref hi, .ref tx, .ref sh])), (w, .inr (9, [.ref pw, .int (iZ lo2), .int (iZ k)])), (pw, .inr (3, [.ref aw, .int (iZ n)])), (aw, .inl (G.2 0, 48, .inl (iF f))), (hi, .inr (1, [.ref sa, .int (iZ (kc c))])), (sa, .inl (G.2 5, 5, .inr (.inr (.inr (.inr (arr5 (rk wa c))))))), (((rk wa c) 0), .inr (9, [.ref ((rk pa c) 0), .int (iZ ((kp L c lo2) 0)), .int (iZ ((kp T c z) 0))])), (((rk pa c) 0), .inr (3, [.ref ((rk aa c) 0), .int (iZ ((kp N c n) 0))])), (((rk aa c) 0), .inl (G.2 0, 48, .inl (iF ((kp F c (cpyF f (oldF F c) 0 0 (n * 4))) 0)))), (((rk wa c) 1), .inr (9, [.ref ((rk pa c) 1), .int (iZ ((kp L c lo2) 1)), .int (iZ ((kp T c z) 1))])), (((rk pa c) 1), .inr (3, [.ref ((rk aa c) 1), .int (iZ ((kp N c n) 1))])), (((rk aa c) 1), .inl (G.2 0, 48, .inl (iF ((kp F c (cpyF f (oldF F c) 0 0 (n * 4))) 1)))), (((rk wa c) 2), .inr (9, [.ref ((rk pa c) 2), .int (iZ ((kp L c lo2) 2)), .int (iZ ((kp T c z) 2))])), (((rk pa c) 2), .inr (3, [.ref ((rk aa c) 2), .int (iZ ((kp N c n) 2))])), (((rk aa c) 2), .inl (G.2 0, 48, .inl (iF ((kp F c (cpyF f (oldF F c) 0 0 (n * 4))) 2)))), (((rk wa c) 3), .inr (9, [.ref ((rk pa c) 3), .int (iZ ((kp L c lo2) 3)), .int (iZ ((kp T c z) 3))])), (((rk pa c) 3), .inr (3, [.ref ((rk aa c) 3), .int (iZ ((kp N c n) 3))])), (((rk aa c) 3), .inl (G.2 0, 48, .inl (iF ((kp F c (cpyF f (oldF F c) 0 0 (n * 4))) 3)))), (((rk wa c) 4), .inr (9, [.ref ((rk pa c) 4), .int (iZ ((kp L c lo2) 4)), .int (iZ ((kp T c z) 4))])), (((rk pa c) 4), .inr (3, [.ref ((rk aa c) 4), .int (iZ ((kp N c n) 4))])), (((rk aa c) 4), .inl (G.2 0, 48, .inl (iF ((kp F c (cpyF f (oldF F c) 0 0 (n * 4))) 4))))]) := by
  refine Ctr.go (own := RX11) (nm := "setThreshold") (by decide +kernel) rfl rfl [some (.ref x), some (.int (iZ k)), none] 1 rfl rfl (Nat.le_of_ble_eq_true rfl) ?_
  intro K h hF
  refine V_iload_n h (dk dd_X11_setThreshold_0 0 rfl) rfl get1 ?_
  refine V_iconst h (dk dd_X11_setThreshold_0 1 rfl) ?_
  refine V_icmp_lt (tgt := 11) h (dk dd_X11_setThreshold_0 2 rfl) rfl (by omega) (fun c2 => ?_) (fun c2 => ?_)
  · exfalso; omega
  · refine V_iload_n h (dk dd_X11_setThreshold_0 3 rfl) rfl get1 ?_
    refine V_ldc h q2_69 (dk dd_X11_setThreshold_0 4 rfl) ?_
    refine V_icmp_le (tgt := 14) h (dk dd_X11_setThreshold_0 5 rfl) rfl (by omega) (fun c8 => ?_) (fun c8 => ?_)
    · refine V_aload_n h (dk dd_X11_setThreshold_0 8 rfl) rfl get0 ?_
      refine V_get h fl_X11_19 0 get0 get1 (dk dd_X11_setThreshold_0 9 rfl) ?_
      refine V_aload_n h (dk dd_X11_setThreshold_0 10 rfl) rfl get0 ?_
      refine V_get h fl_X11_10 0 get0 get0 (dk dd_X11_setThreshold_0 11 rfl) ?_
      refine V_callV h st2 ci_X11_53 (pk_c get4 (pk_c get5 (pk_c get6 (pk_c get7 (pk_c get8 (pk_c get9 (pk_c get10 (pk_c get11 (pk_c get12 (pk_c get13 (pk_c get14 (pk_c get15 (pk_c get16 (pk_c get17 (pk_c get18 (pk_c get19 (pk_c get20 (pk_c get1 (pk_c get2 (pk_c get3 pk_n)))))))))))))))))))) rfl 4 get4 rfl (m_X2_keep l G _ _ _ _ _ _ _ _ _ _ _ _ _ _ _ _ _ (by omega) (by omega)) rfl rfl (Nat.le_of_ble_eq_true rfl) (by decide) ⟨rfl, rfl, rfl⟩ (dk dd_X11_setThreshold_0 12 rfl) sk0 (sm_c set4 (sm_c set5 (sm_c set6 (sm_c set7 (sm_c set8 (sm_c set9 (sm_c set10 (sm_c set11 (sm_c set12 (sm_c set13 (sm_c set14 (sm_c set15 (sm_c set16 (sm_c set17 (sm_c set18 (sm_c set19 (sm_c set20 (sm_c set1 (sm_c set2 (sm_c set3 sm_n)))))))))))))))))))) ?_
      refine V_aload_n h (dk dd_X11_setThreshold_0 13 rfl) rfl get0 ?_
      refine V_get h fl_X11_10 0 get0 get0 (dk dd_X11_setThreshold_0 14 rfl) ?_
      refine V_get h fl_X11_77 1 get1 get2 (dk dd_X11_setThreshold_0 15 rfl) ?_
      refine V_istore_n h (dk dd_X11_setThreshold_0 16 rfl) rfl (Nat.le_of_ble_eq_true rfl) rfl set2 ?_
      refine V_aload_n h (dk dd_X11_setThreshold_0 17 rfl) rfl get0 ?_
      refine V_get h fl_X11_10 0 get0 get0 (dk dd_X11_setThreshold_0 18 rfl) ?_
      refine V_iload_n h (dk dd_X11_setThreshold_0 19 rfl) rfl get1 ?_
      refine V_put h pf_X11_77 1 get1 (Nat.le_of_ble_eq_true rfl) set2 set1 rfl rfl (dk dd_X11_setThreshold_0 20 rfl) ?_
      refine V_iload_n h (dk dd_X11_setThreshold_0 21 rfl) rfl get2 ?_
      refine V_iret h hF (dk dd_X11_setThreshold_0 22 rfl) ⟨Nat.le_of_ble_eq_true rfl, Nat.le_of_ble_eq_true rfl⟩ ?_
      exact det_i (by first | rfl | omega) rfl
    · exfalso; omega

set_option maxHeartbeats 4000000 in
set_option maxRecDepth 100000 in
theorem m_type_bad (l : Launch) (G : GT) (x w hi tx sh : Nat) (sg fo fa : Nat) (ln a b o : Int) (ch : Int → Int) (fc : Int) (g : Int → Int) (k : Int) (hc0 : ChOK ch ln) (hk : R32 k) (hA : ¬ (32 ≤ k ∧ k ≤ 126)) : Ctr l G yX11_type cX11_type 2 (Option.some FieldType.int) (rmO 1 0 0 21) [.ref x, .int (iZ k)] [(x, .inr (10, [.ref w, .ref hi, .ref tx, .ref sh])), (tx, .inr (8, [.ref sg, .ref fo, .int (iZ ln), .int (iZ a), .int (iZ b), .int (iZ o)])), (sg, .inl (G.2 3, 60, .inl (iF ch))), (fo, .inr (3, [.ref fa, .int (iZ fc)])), (fa, .inl (G.2 0, 48, .inl (iF g)))] (Det (some (.int (iZ (-100001)))) [(x, .inr (10, [.ref w, .ref hi, .ref tx, .ref sh])), (tx, .inr (8, [.ref sg, .ref fo, .int (iZ ln), .int (iZ a), .int (iZ b), .int (iZ o)])), (sg, .inl (G.2 3, 60, .inl (iF ch))), (fo, .inr (3, [.ref fa, .int (iZ fc)])), (fa, .inl (G.2 0, 48, .inl (iF g)))]) := by
  refine Ctr.go (own := RX11) (nm := "type") (by decide +kernel) rfl rfl [some (.ref x), some (.int (iZ k))] 0 rfl rfl (Nat.le_of_ble_eq_true rfl) ?_
  intro K h hF
  refine V_iload_n h (dk dd_X11_type_0 0 rfl) rfl get1 ?_
  refine V_bipush h (dk dd_X11_type_0 1 rfl) (by decide) ?_
  refine V_icmp_lt (tgt := 12) h (dk dd_X11_type_0 2 rfl) rfl (by omega) (fun c3 => ?_) (fun c3 => ?_)
  · refine V_ldc h q2_32 (dk dd_X11_type_0 6 rfl) ?_
    refine V_iret h hF (dk dd_X11_type_0 7 rfl) ⟨Nat.le_of_ble_eq_true rfl, Nat.le_of_ble_eq_true rfl⟩ ?_
    exact det_i (by first | rfl | omega) rfl
  · refine V_iload_n h (dk dd_X11_type_0 3 rfl) rfl get1 ?_
    refine V_bipush h (dk dd_X11_type_0 4 rfl) (by decide) ?_
    refine V_icmp_le (tgt := 15) h (dk dd_X11_type_0 5 rfl) rfl (by omega) (fun c9 => ?_) (fun c9 => ?_)
    · exfalso; omega
    · refine V_ldc h q2_32 (dk dd_X11_type_0 6 rfl) ?_
      refine V_iret h hF (dk dd_X11_type_0 7 rfl) ⟨Nat.le_of_ble_eq_true rfl, Nat.le_of_ble_eq_true rfl⟩ ?_
      exact det_i (by first | rfl | omega) rfl

