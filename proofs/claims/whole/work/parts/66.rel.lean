/-! the law's rows; the two states, side by side -/
def ScrK (b Ln : Nat) (sc : Int → Int) (K : KT) : Prop := va_X b Ln (fun j => iZ (sc (j : Int))) K.2.1.1 K.2.1.1.heap ∧ b < K.2.1.1.heap.size ∧ ¬ K.2.2.2.2.2 b
section LAW
variable {l : Launch} {G : GT} {ad : AdT} {own nm : String} {cc : ByteArray} {nL : Nat} {rm : Room} {K : KT} {cs : Nat × Nat} {pc : Nat} {lv lv' : List (Option Value)} {st st' rest : List Value} {ws ws' wc w1 : va_W}
variable {y : MethodName} {cy : ByteArray} {nLy n idx : Nat} {rt : Option FieldType} {rmy : Room} {as : List Value} {isC : List Nat}
theorem V_sld (h : Good l G own nm cc nL rm K) {b Ln : Nat} {sc : Int → Int} {i : Int} (hS : ScrK b Ln sc K) (hr : In31 i Ln) (hd : decode cc pc = .ok (.iaload, 1)) (k : V K cs (pc + 1) lv (.int (iZ (sc i)) :: st) ws) : V K cs pc lv (.int (iZ i) :: .ref b :: st) ws := fun H locs ls hP hD hSS hL =>
  va_sld h.1 h.2.1 hS.1 hS.2.1 hS.2.2 hSS hr.vp hd (by rw [hr.cl]; exact k H locs ls hP hD hSS hL)
theorem V_slenS (h : Good l G own nm cc nL rm K) {b Ln : Nat} {sc : Int → Int} (hS : ScrK b Ln sc K) (hd : decode cc pc = .ok (.arraylength, 1)) (k : V K cs (pc + 1) lv (.int (iZ (Ln : Int)) :: st) ws) : V K cs pc lv (.ref b :: st) ws := fun H locs ls hP hD hSS hL =>
  va_slen h.1 h.2.1 hS.1 hS.2.1 hS.2.2 hSS hd (by rw [iZ_nI]; exact k H locs ls hP hD hSS hL)
theorem V_icmp_same (h : Good l G own nm cc nL rm K) {x : Int32} {off : Int} {tgt : Nat} (hd : decode cc pc = .ok (.if_icmp .eq off, 3)) (ht : (pc : Int) + off = (tgt : Int)) (k : V K cs tgt lv st ws) : V K cs pc lv (.int x :: .int x :: st) ws := fun H locs ls hP hD hSS hL =>
  lv_icmp_eq h.1 h.2.1 hd ht (fun _ => k H locs ls hP hD hSS hL) (fun q => absurd rfl q)
theorem lgc_same {x : Int64} : lg_cmp x x = iZ 0 := by
  have e := lgc (a := x.toInt) (b := x.toInt) ⟨lZ_R x, lZ_R x⟩
  rw [lZ_of] at e
  rw [e, if_neg (by omega), if_pos rfl]
theorem V_lcmp_same (h : Good l G own nm cc nL rm K) {x : Int64} (hd : decode cc pc = .ok (.lcmp, 1)) (k : V K cs (pc + 1) lv (.int (iZ 0) :: st) ws) : V K cs pc lv (.long x :: .long x :: st) ws := fun H locs ls hP hD hSS hL =>
  W.lcmp h.1 h.2.1 hd (by rw [lgc_same]; exact k H locs ls hP hD hSS hL)
theorem V_dcmp_same (h : Good l G own nm cc nL rm K) {x : UInt64} {op : CmpOp} (hx : Dok x) (hd : decode cc pc = .ok (.dcmp op, 1)) (k : V K cs (pc + 1) lv (.int (iZ 0) :: st) ws) : V K cs pc lv (.double x :: .double x :: st) ws := fun H locs ls hP hD hS hL => lv_dcmp h.1 h.2.1 hd (by rw [dcmp_ok hx]; exact k H locs ls hP hD hS hL)
theorem V_callVsc (h : Good l G own nm cc nL rm K) (hK : StrK ad K) {v : Option Value} {b ci : Nat} {fs : List Value} {T : u_T} {N : Nat} (hst : st = (.ref b :: as).reverse ++ rest) (hci : CIv own idx y cy nLy rt n) (hpk : Pk isC ws wc) (hnd : va_nd isC = true) (q0 : Nat) (he : ws[q0]? = some (b, .inr (ci, fs))) (hM : CtrS l G ad y cy nLy rt rmy (.ref b :: as) wc (Det v w1)) (hc : vwCl[ci]? = some (y.cls, T, N)) (hn : as.length = n) (hlv : lv.length = nL)
    (hrm : rmy.frames + 1 ≤ rm.frames ∧ 8 + (nLy + 11) + rmy.locals ≤ rm.locals) (hroom : (rest.map fun v => v.category).sum ≤ 8) (hz : rmy.cells = 0 ∧ rmy.slots = 0) (hcs : cs.1 ≤ rm.cells ∧ cs.2 ≤ rm.slots) (hd : decode cc pc = .ok (.invokevirtual idx, 3)) (hsk : stk v rest = st') (hsm : Sm ws isC w1 ws')
    (k : V K cs (pc + 3) lv st' ws') : V K cs pc lv st ws := by
  intro H locs ls hP hD hS hL
  have hF := Pk_free hpk hD hS h.2.2.2.2.2.2.1
  obtain ⟨z1, z2⟩ := hz
  obtain ⟨hx, hb, hml, hown, hts, hKK, hA, hnm, hl, hG, hR⟩ := h
  subst hl; subst hG; subst hR
  refine va_callX (va_runV (As := as) (rest := rest) ⟨hx, hb, hml, hown, hts⟩ (hM H.size) (cwV n hts hci.1 rfl rfl rfl ⟨rfl, hci.2⟩ hrm) ⟨preS_blind, va_recv hKK.1 hP hc he, fun U hU hW => ⟨rfl, ⟨by rw [hU], by rw [hU]; exact Pk_P hpk hP, hKK.moved hW, ?_⟩, by rw [hU]; exact ((hK.kept hS.2.1).narrow hF).moved hW⟩⟩ rfl hn (hL.1.trans hlv) (hst.trans (by rw [List.reverse_cons, List.append_assoc]; rfl)) (lv_room hroom) hd ⟨by rw [z1]; exact hcs.1, by rw [z2]; exact hcs.2⟩) hS hF (fun v w H1 locs1 hp hP1 hD1 hz hk hS1 => ?_)
  · refine ⟨fun i j p q hi hj hpq => ?_, fun _ _ _ => trivial⟩
    obtain ⟨a, a1, a2⟩ := Pk_sp hpk i p hi
    obtain ⟨b, b1, b2⟩ := Pk_sp hpk j q hj
    have hab := hD.1 a b p q a2 b2 hpq
    subst hab
    exact va_nd_inj isC hnd i j a a1 b1
  · obtain ⟨rfl, rfl⟩ := hp
    obtain ⟨hP2, hD2⟩ := va_back hP hD hpk hnd hk hF hP1 hD1 hsm
    rw [stk_eq, hsk, z1, z2]
    exact k H1 locs1 ls hP2 hD2 hS1 hL
end LAW
/-! echo marks are 0 or 1 -/
theorem actM_Z {thr h kd k p r : Int} {x : SMX} (hz : ∀ j, Z01 (x.2.1 j)) : ∀ j, Z01 ((actM thr h kd k p r x).2.1 j) := by
  intro j
  unfold actM
  split
  · exact hz j
  · split
    · exact hz j
    · split
      · exact hz j
      · split
        · exact hz j
        · show Z01 (zup x.2.1 (h - 1) 1 j)
          unfold zup
          split
          · exact Or.inr rfl
          · exact hz j
theorem partsM_Z {thr h r : Int} {f : Int → Int} {x : SMX} (hz : ∀ j, Z01 (x.2.1 j)) : ∀ (k : Nat) (j : Int), Z01 ((partsM thr h r f k x).2.1 j)
  | 0, j => hz j
  | k + 1, j => by
    have e := partsM_Z (thr := thr) (h := h) (r := r) (f := f) hz k
    rw [partsM]
    unfold stepM
    split
    · exact e j
    · split
      · exact actM_Z e j
      · exact e j
theorem itM_Z {thr lo n : Int} {f : Int → Int} {y : FMX} (hz : ∀ j, Z01 (y.1.2.1 j)) : ∀ (k : Nat) (j : Int), Z01 ((itM thr lo n f k y).1.2.1 j)
  | 0, j => hz j
  | k + 1, j => by
    have e := itM_Z (thr := thr) (lo := lo) (n := n) (f := f) hz k
    rw [itM]
    split
    · exact e j
    · unfold goM hiM
      refine partsM_Z (fun j => ?_) _ j
      dsimp only
      unfold zup
      split
      · exact Or.inl rfl
      · exact e j
/-- all that is told of a shot -/
def SHR (m nh ec es cm pc be : Int) (Nn Ec wd A Cn ie my su fi mo : Int → Int) : Prop :=
  (0 ≤ nh ∧ nh ≤ 600) ∧ (0 ≤ m ∧ m ≤ 100) ∧ (0 ≤ cm ∧ cm ≤ 27720) ∧ (∀ i, R64 (wd i)) ∧ (0 ≤ ec ∧ ec ≤ 600) ∧ (0 ≤ pc ∧ pc ≤ 201) ∧ (∀ j, 0 ≤ j → j < pc → R32 (Cn j)) ∧ es = sumE Nn nh.toNat ∧
  (∀ j, 0 ≤ j → j < nh → (0 ≤ Nn (j * 5 + 1) ∧ Nn (j * 5 + 1) < 27720) ∧ 0 ≤ Nn (j * 5) ∧ Nn (j * 5) < 100) ∧ (0 ≤ be ∧ be < 27720) ∧ (∀ j, 0 ≤ j → j < 12 → R32 (my j) ∧ R32 (mo j)) ∧ (∀ j, Z01 (ie j)) ∧
  (∀ g : Int → Int, cm = (cvS Nn (clr0 g 27720) nh.toNat).1) ∧ (∀ g : Int → Int, gapC wd cm = if (cvS Nn (clr0 g 27720) nh.toNat).1 = 0 then 27720 else (gpM (cvS Nn (clr0 g 27720) nh.toNat).2 55440).2) ∧
  (∀ p w, earL A p w = heL my su fi mo p w) ∧ (∀ i, echoF ec Ec i = if i < 0 then -100001 else ecM ie nh.toNat 0 i) ∧
  (∀ (k : Int) (en : Int → Int), 0 ≤ k ∧ k ≤ 200 → pairsF Cn (min (k + 1) pc) = pairsF (edS Nn (zup en 0 be) k nh.toNat).2 ((edS Nn (zup en 0 be) k nh.toNat).1 + 1))
theorem SHR_0 : SHR 0 0 0 0 0 0 0 z0 z0 z0 (ear0 z0 12) z0 z0 z0 z0 z0 z0 := by
  have hE : EarR (ear0 z0 12) (z0, z0, z0, z0, z0) := by
    have e := ear_0 (A := z0) (ie := z0) (my := z0) (su := z0) (fi := z0) (mo := z0)
    intro p h0 h1
    have c : clr0 z0 12 p = z0 p := if_pos ⟨h0, h1⟩
    have q := e p h0 h1
    dsimp only at q ⊢
    rw [c] at q
    exact q
  refine ⟨by decide, by decide, by decide, fun i => (show R64 0 by decide), by decide, by decide, fun j a b => by omega, rfl, fun j a b => by omega, by decide, fun j a b => (show R32 0 ∧ R32 0 by decide), fun j => Or.inl rfl, fun g => rfl, fun g => ?_, fun p w => ear_eq hE p w, fun i => ?_, fun k en hk => ?_⟩
  · unfold gapC
    rw [if_pos rfl]
    exact (if_pos (show (cvS z0 (clr0 g 27720) (0 : Int).toNat).1 = 0 from rfl)).symm
  · exact echo_eq (h := 0) ⟨rfl, fun k hk => by omega⟩
  · rw [show min (k + 1) 0 = 0 by omega]
    rfl
theorem SHR_s {be : Int} {x : FX} {y : FMX} {h : Nat} (hF : FR 600 be x y) (hM : FM (h : Int) y) (hh : h ≤ 600) (hz : ∀ j, Z01 (y.1.2.1 j)) (hbe : 0 ≤ be ∧ be < 27720) :
    SHR x.1.1.1 x.2.1.1 x.1.2.2.1 x.2.1.2.1 x.2.2.1.1 x.2.2.2.1 be x.2.1.2.2 x.1.2.2.2 x.2.2.1.2 x.1.2.1 x.2.2.2.2 y.1.2.1 y.1.2.2.1 y.1.2.2.2.1 y.1.2.2.2.2.1 y.1.2.2.2.2.2 := by
  obtain ⟨k, hk, q1, q2, q3, q4, q5, q6, q7, q8, q9, q10⟩ := hF
  obtain ⟨-, hm, -, -, hE, hC⟩ := q3
  have hEI := hM.2.1
  have hc := cvS_c (N := y.2.2) (g := clr0 z0 27720) k
  have hcm := q6.2.1 z0
  have hec := cntE_R (ie := y.1.2.1) k
  have hec2 := hC.1
  rw [q1, q4]
  rw [show ((k : Nat) : Int).toNat = k from rfl] at hcm
  unfold SHR
  rw [show ((k : Nat) : Int).toNat = k from rfl]
  refine ⟨by omega, hm, by omega, q6.2.2, by omega, q9, fun j a b => by have := q10 j a b; omega, q5, q8, hbe, fun j a b => by have := hEI j a b; omega, hz, q6.2.1, fun g => ?_, ear_eq hE, fun i => echo_eq hC, fun c en hc2 => path_cross q7 hc2⟩
  exact mark_gap (g := g) q6 (by omega) (fun i a b => (q8 i a b).1)
theorem fold_congr {g g' : Int → Int} {x : Int} : ∀ k : Nat, (∀ j : Int, 0 ≤ j → j < k → g j = g' j) → fold31 g k x = fold31 g' k x
  | 0, _ => rfl
  | k + 1, h => by
    have e := fold_congr (x := x) k (fun j a b => h j a (by omega))
    rw [fold31, fold31, e, h (k : Int) (by omega) (by omega)]
theorem fp_eq {n lo z m nh ec es cm pc be : Int} {f vv g Nn Ec wd A Cn ie my su fi mo : Int → Int} (hW : WR n lo z f vv) (hS : SHR m nh ec es cm pc be Nn Ec wd A Cn ie my su fi mo) : fpM n lo z nh m cm f Nn A = fpM (vv 0) (vv 1) (vv 2) nh m (cvS Nn (clr0 g 27720) nh.toNat).1 (vF vv) Nn (fun j => heM my su fi mo (j / 4) (j % 4)) := by
  have hcm := hS.2.2.2.2.2.2.2.2.2.2.2.2.1 g
  have hear := hS.2.2.2.2.2.2.2.2.2.2.2.2.2.2.1
  have hn := hW.2.2.2.2.1
  unfold fpM
  rw [hW.1, hW.2.1, hW.2.2.1, ← hcm, fold_congr (g := f) (g' := vF vv) (4 * n).toNat (fun j a b => hW.2.2.2.1 j a (by omega))]
  apply fold_congr
  intro j a b
  have e := hear (j / 4) (j % 4)
  unfold earL heL at e
  rw [if_pos (by omega), if_pos (by omega), show j / 4 * 4 + j % 4 = j by omega] at e
  exact e
