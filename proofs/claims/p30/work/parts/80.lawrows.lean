/-! the law: rows of its own; contracts that know of the script -/
def XS (b Ln : Nat) (sc : Int → Int) (A : Nat → Prop) (U : State) (H : Heap) : Prop := va_X b Ln (fun j => iZ (sc (j : Int))) U H ∧ b < H.size ∧ ¬ A b
theorem XS.moved {b Ln : Nat} {sc : Int → Int} {A : Nat → Prop} {s U : State} {H : Heap} (hW : s.WarmedH U.vm) (h : XS b Ln sc A s H) : XS b Ln sc A U H := ⟨h.1.moved hW.alike, h.2⟩
theorem XS.same {b Ln : Nat} {sc : Int → Int} {A : Nat → Prop} {u U : State} {H : Heap} (hv : u.vm = U.vm) (h : XS b Ln sc A u H) : XS b Ln sc A U H := ⟨h.1.moved (by rw [hv]; exact Vm.Alike.refl U.vm), h.2⟩
theorem XS.kept {b Ln : Nat} {sc : Int → Int} {A : Nat → Prop} {U : State} {H H1 : Heap} (hq : ∀ a : Nat, a < H.size → ¬ A a → H1[a]? = H[a]?) (h : XS b Ln sc A U H) : XS b Ln sc A U H1 := by
  have e := hq b h.2.1 h.2.2
  refine ⟨h.1.kept e, ?_, h.2.2⟩
  rw [Array.getElem?_eq_getElem h.2.1] at e
  exact (Array.getElem?_eq_some_iff.mp e).1
theorem XS.narrow {b Ln : Nat} {sc : Int → Int} {A B : Nat → Prop} {U : State} {H : Heap} (hAB : ∀ q, B q → A q) (h : XS b Ln sc A U H) : XS b Ln sc B U H := ⟨h.1, h.2.1, fun q => h.2.2 (hAB b q)⟩
def ScrK (b Ln : Nat) (sc : Int → Int) (K : KT) : Prop := XS b Ln sc K.2.2.2.2.2 K.2.1.1 K.2.1.1.heap
def CtrX (l : Launch) (G : GT) (b Ln : Nat) (sc : Int → Int) (y : MethodName) (cc : ByteArray) (nL : Nat) (rt : Option FieldType) (rm : Room) (as : List Value) (ws : va_W) (PO : Option Value → va_W → Prop) : Prop :=
  ∀ sz : Nat, Met l y (.code y cc nL rt :: lw_all) rm (va_Pc as (fun U => (U.heap.size = sz ∧ va_P G.1 vwCl ws U.heap ∧ KK G U ∧ va_D (fun _ => True) ws) ∧ XS b Ln sc (va_A ws sz) U U.heap)) (Qof G PO (va_A ws sz)) rm.cells rm.slots (va_A ws sz)
section LAW
variable {l : Launch} {G : GT} {own nm : String} {cc : ByteArray} {nL : Nat} {rm : Room} {K : KT} {cs : Nat × Nat} {pc : Nat} {lv lv' : List (Option Value)} {st st' rest : List Value} {ws ws' wc w1 : va_W} {PO : Option Value → va_W → Prop}
variable {y : MethodName} {cy : ByteArray} {nLy n idx : Nat} {rt : Option FieldType} {rmy : Room} {as : List Value} {isC : List Nat} {b Ln : Nat} {sc : Int → Int}
theorem CtrX.go (hy : plainFor y = true) (hown : y.cls = own) (hnm : y.name = nm) (lv : List (Option Value)) (k : Nat) (hlv : lvOf as ++ List.replicate k none = lv) (hn : lv.length = nL) (hlen : (lg_sl as).length ≤ nL)
    (body : ∀ K : KT, Good l G own nm cc nL rm K → Fini rt rm.cells rm.slots PO K → ScrK b Ln sc K → V K (0, 0) 0 lv [] ws) : CtrX l G b Ln sc y cc nL rt rm as ws PO := by
  intro sz
  refine va_MetF (cc := cc) (maxL := nL) (ret := rt) hy rfl ?_
  intro p e s m args below meth c s₁ B hml hv
  obtain ⟨rfl, ⟨hsz, hP, hK, hD0⟩, hSS⟩ := hv
  have hts := atoms_spec (ws := .code y cc nL rt :: lw_all) B.pre
  have hown2 : s.vm.findClass own = some m.cls := by rw [← hown]; exact findClass_of_methodNamed B.named
  have hin : meth.name = nm := by rw [← hnm]; exact (name_of_methodNamed B.named B.method).1
  subst hsz
  have hD := hD0.self (sz := s.heap.size)
  have hl := lv_entry as (n := nL) hlen
  rw [lg_entry_eq]
  have hlv2 : ∀ (i : Nat) (v : Value), lv[i]? = some (some v) → (i, v) ∈ lv_args 0 as := fun i v h => by
    have e := lvOf_mem as k 0 i v (by rw [hlv]; exact h)
    rwa [Nat.zero_add] at e
  exact body ((p, l, e, rm), (s, m, as.toArray, below), (meth, c), MQ below (Qof G PO (va_A ws s.heap.size)) as.toArray s rm.cells rm.slots (va_A ws s.heap.size), G, va_A ws s.heap.size)
    ⟨B.exec, B.bytes, hml, hown2, fun w h => hts w (List.mem_cons_of_mem _ h), hK, fun q h => Or.inr h, hin, rfl, rfl, rfl⟩ ⟨rfl, B.returns, B.notSynchronized⟩ hSS s.heap [] _ hP hD va_S.rf (hasL.of hl hn hlv2)
theorem preX_blind {as : List Value} {sz : Nat} {wc : va_W} {A : Nat → Prop} : FrameBlind (va_Pc as (fun U => (U.heap.size = sz ∧ va_P G.1 vwCl wc U.heap ∧ KK G U ∧ va_D (fun _ => True) wc) ∧ XS b Ln sc A U U.heap)) :=
  fun a U g mk q => ⟨q.1, ⟨q.2.1.1, q.2.1.2.1, KK.same (u := U) (U := U.calling g mk a) rfl q.2.1.2.2.1, q.2.1.2.2.2⟩, XS.same (u := U) (U := U.calling g mk a) rfl q.2.2⟩
theorem V_callSx (h : Good l G own nm cc nL rm K) (hK : ScrK b Ln sc K) {v : Option Value} (hst : st = as.reverse ++ rest) (hci : CIs own idx y cy nLy rt n) (hpk : Pk isC ws wc) (hnd : va_nd isC = true) (hM : CtrX l G b Ln sc y cy nLy rt rmy as wc (Det v w1)) (hn : as.length = n) (hlv : lv.length = nL) (hroom : (rest.map fun v => v.category).sum ≤ 8)
    (hrm : rmy.frames + 1 ≤ rm.frames ∧ 8 + (nLy + 11) + rmy.locals ≤ rm.locals) (hz : rmy.cells = 0 ∧ rmy.slots = 0) (hcs : cs.1 ≤ rm.cells ∧ cs.2 ≤ rm.slots) (hd : decode cc pc = .ok (.invokestatic idx, 3)) (hsk : stk v rest = st') (hsm : Sm ws isC w1 ws')
    (k : V K cs (pc + 3) lv st' ws') : V K cs pc lv st ws := by
  intro H locs ls hP hD hS hL
  have hF := Pk_free hpk hD hS h.2.2.2.2.2.2.1
  obtain ⟨z1, z2⟩ := hz
  obtain ⟨hx, hb, hml, hown, hts, hKK, hA, hnm, hl, hG, hR⟩ := h
  subst hl; subst hG; subst hR
  refine va_callX (va_runS (As := as) (rest := rest) ⟨hx, hb, hml, hown, hts⟩ (hM H.size) (va_cwS n hts hci.1 rfl rfl rfl hci.2 hrm) ⟨preX_blind, fun U hU hW => ⟨rfl, ⟨by rw [hU], by rw [hU]; exact Pk_P hpk hP, hKK.moved hW, ?_⟩, by rw [hU]; exact ((hK.kept hS.2.1).narrow hF).moved hW⟩⟩ rfl hn (hL.1.trans hlv) hst (lv_room hroom) hd ⟨by rw [z1]; exact hcs.1, by rw [z2]; exact hcs.2⟩) hS hF (fun v w H1 locs1 hp hP1 hD1 hz hk hS1 => ?_)
  · refine ⟨fun i j p q hi hj hpq => ?_, fun _ _ _ => trivial⟩
    obtain ⟨a, a1, a2⟩ := Pk_sp hpk i p hi
    obtain ⟨b, b1, b2⟩ := Pk_sp hpk j q hj
    have hab := hD.1 a b p q a2 b2 hpq
    subst hab
    exact va_nd_inj isC hnd i j a a1 b1
  · obtain ⟨rfl, rfl⟩ := hp
    obtain ⟨hP2, hD2⟩ := va_back hP hD hpk hnd hk hF hP1 hD1 hsm
    rw [stk_eq, hsk, z1, z2]
    exact k H1 locs1 ls hP2 hD2 hS1 hL
/-- static calls, whatever was made before: that make nothing, and that make -/
theorem V_callSc (h : Good l G own nm cc nL rm K) {v : Option Value} (hst : st = as.reverse ++ rest) (hci : CIs own idx y cy nLy rt n) (hpk : Pk isC ws wc) (hnd : va_nd isC = true) (hM : Ctr l G y cy nLy rt rmy as wc (Det v w1)) (hn : as.length = n) (hlv : lv.length = nL) (hroom : (rest.map fun v => v.category).sum ≤ 8)
    (hrm : rmy.frames + 1 ≤ rm.frames ∧ 8 + (nLy + 11) + rmy.locals ≤ rm.locals) (hz : rmy.cells = 0 ∧ rmy.slots = 0) (hcs : cs.1 ≤ rm.cells ∧ cs.2 ≤ rm.slots) (hd : decode cc pc = .ok (.invokestatic idx, 3)) (hsk : stk v rest = st') (hsm : Sm ws isC w1 ws')
    (k : V K cs (pc + 3) lv st' ws') : V K cs pc lv st ws := by
  obtain ⟨z1, z2⟩ := hz
  refine V_callSg h hst hci hpk hnd hM hn hlv hroom hrm (by rw [z1, z2]; exact hcs) hd ?_
  rintro _ _ ⟨rfl, rfl⟩
  exact ⟨ws', hsm, by rw [z1, z2, hsk]; exact k⟩
theorem V_callSm (h : Good l G own nm cc nL rm K) {v : Option Value} (hst : st = as.reverse ++ rest) (hci : CIs own idx y cy nLy rt n) (hpk : Pk isC ws wc) (hnd : va_nd isC = true) (hM : Ctr l G y cy nLy rt rmy as wc (Det v w1)) (hn : as.length = n) (hlv : lv.length = nL) (hroom : (rest.map fun v => v.category).sum ≤ 8)
    (hrm : rmy.frames + 1 ≤ rm.frames ∧ 8 + (nLy + 11) + rmy.locals ≤ rm.locals) {cs' : Nat × Nat} (he : (cs.1 + rmy.cells, cs.2 + rmy.slots) = cs') (hcs : cs'.1 ≤ rm.cells ∧ cs'.2 ≤ rm.slots) (hd : decode cc pc = .ok (.invokestatic idx, 3)) (hsk : stk v rest = st') (hsm : Sm ws isC w1 ws')
    (k : V K cs' (pc + 3) lv st' ws') : V K cs pc lv st ws := by
  subst he
  refine V_callSg h hst hci hpk hnd hM hn hlv hroom hrm hcs hd ?_
  rintro _ _ ⟨rfl, rfl⟩
  exact ⟨ws', hsm, by rw [hsk]; exact k⟩
theorem V_sld (h : Good l G own nm cc nL rm K) {i : Int} (hS : ScrK b Ln sc K) (hr : In31 i Ln) (hd : decode cc pc = .ok (.iaload, 1)) (k : V K cs (pc + 1) lv (.int (iZ (sc i)) :: st) ws) : V K cs pc lv (.int (iZ i) :: .ref b :: st) ws := fun H locs ls hP hD hSS hL =>
  va_sld h.1 h.2.1 hS.1 hS.2.1 hS.2.2 hSS hr.vp hd (by rw [hr.cl]; exact k H locs ls hP hD hSS hL)
theorem V_slenS (h : Good l G own nm cc nL rm K) (hS : ScrK b Ln sc K) (hd : decode cc pc = .ok (.arraylength, 1)) (k : V K cs (pc + 1) lv (.int (iZ (Ln : Int)) :: st) ws) : V K cs pc lv (.ref b :: st) ws := fun H locs ls hP hD hSS hL =>
  va_slen h.1 h.2.1 hS.1 hS.2.1 hS.2.2 hSS hd (by rw [iZ_nI]; exact k H locs ls hP hD hSS hL)
def shrZ (a b : Int) : Int := (iZ a >>> (iZ b &&& 31)).toInt
theorem V_ishr (h : Good l G own nm cc nL rm K) {a b : Int} (hd : decode cc pc = .ok (.ishr, 1)) (k : V K cs (pc + 1) lv (.int (iZ (shrZ a b)) :: st) ws) : V K cs pc lv (.int (iZ b) :: .int (iZ a) :: st) ws := fun H locs ls hP hD hS hL => lv_ishr h.1 h.2.1 hd (by have k := k H locs ls hP hD hS hL; unfold shrZ at k; rw [iZ_of] at k; exact k)
theorem shr_R (a b : Int) : R32 (shrZ a b) := iZ_R _
theorem and_R (a b : Int) : R32 (iandZ a b) := iZ_R _
theorem and31 (a : Int) : 0 ≤ iandZ a 2147483647 := by
  unfold iandZ
  have e : (iZ a &&& iZ 2147483647).toInt = ((iZ a &&& iZ 2147483647).toBitVec).toInt := rfl
  rw [e, Int32.toBitVec_and]
  have hm : ((iZ a).toBitVec &&& (iZ 2147483647).toBitVec).msb = false := by
    rw [BitVec.msb_and, show (iZ 2147483647).toBitVec.msb = false by decide +kernel, Bool.and_false]
  rw [BitVec.toInt_eq_msb_cond, if_neg (by rw [hm]; decide)]
  omega
def upF (a n : Int) : Int := iandZ a 2147483647 % n
theorem up_R (a : Int) {n : Int} (h : 0 < n) : 0 ≤ upF a n ∧ upF a n < n := ⟨Int.emod_nonneg _ (Int.ne_of_gt h), Int.emod_lt_of_pos _ h⟩
noncomputable def cellF (sc : Int → Int) (Ln : Nat) (k : Int) : Int := by classical exact if k < (Ln : Int) then sc k else (iZ (763049417 * (k + 3))).toInt
theorem cell_t {sc : Int → Int} {Ln : Nat} {k : Int} (h : k < (Ln : Int)) : cellF sc Ln k = sc k := if_pos h
theorem cell_f {sc : Int → Int} {Ln : Nat} {k : Int} (h : ¬ k < (Ln : Int)) : iZ (763049417 * (k + 3)) = iZ (cellF sc Ln k) := by
  have e : cellF sc Ln k = (iZ (763049417 * (k + 3))).toInt := if_neg h
  rw [e, iZ_of]
theorem cell_R {sc : Int → Int} {Ln : Nat} {k : Int} (hsc : ∀ j, R32 (sc j)) : R32 (cellF sc Ln k) := by
  by_cases h : k < (Ln : Int)
  · rw [cell_t h]; exact hsc k
  · have e : cellF sc Ln k = (iZ (763049417 * (k + 3))).toInt := if_neg h
    rw [e]; exact iZ_R _
def stepF (q : Int) : Int := if iandZ (shrZ q 16) 1 = 0 then 1 + upF q 13859 else -(1 + upF q 13859)
theorem step_R (q : Int) : isStepP (stepF q) := by
  have := up_R q (show (0 : Int) < 13859 by decide)
  unfold stepF isStepP
  split <;> omega
theorem fcmp_ok {a : UInt32} (h : Fok a) : FP.fcmp a a = some .eq := by
  have hd := h.d
  unfold FP.fcmp FP.Core.fcmp FP.Core.cmp
  generalize FP.Core.decode FP.Core.b32 a.toNat = d at hd
  cases d with
  | nan => exact absurd rfl hd
  | inf s =>
    show some (compare (FP.Core.signed s 1) (FP.Core.signed s 1)) = _
    rw [cmp_self]
  | fin s c q =>
    show some (compare (FP.Core.signed s (FP.Core.inUnits c q (min q q))) (FP.Core.signed s (FP.Core.inUnits c q (min q q)))) = _
    rw [cmp_self]
theorem V_fcmp_same (h : Good l G own nm cc nL rm K) {x : UInt32} {op : CmpOp} (hx : Fok x) (hd : decode cc pc = .ok (.fcmp op, 1)) (k : V K cs (pc + 1) lv (.int (iZ 0) :: st) ws) : V K cs pc lv (.float x :: .float x :: st) ws := fun H locs ls hP hD hS hL => lv_fcmp h.1 h.2.1 hd (by rw [fcmp_ok hx]; exact k H locs ls hP hD hS hL)
theorem lgc_same {x : Int64} : lg_cmp x x = iZ 0 := by
  have e := lgc (a := x.toInt) (b := x.toInt) ⟨lZ_R x, lZ_R x⟩
  rw [lZ_of] at e
  rw [e, if_neg (by omega), if_pos rfl]
theorem V_lcmp_same (h : Good l G own nm cc nL rm K) {x : Int64} (hd : decode cc pc = .ok (.lcmp, 1)) (k : V K cs (pc + 1) lv (.int (iZ 0) :: st) ws) : V K cs pc lv (.long x :: .long x :: st) ws := fun H locs ls hP hD hSS hL =>
  W.lcmp h.1 h.2.1 hd (by rw [lgc_same]; exact k H locs ls hP hD hSS hL)
end LAW

theorem m_time_in (l : Launch) (G : GT) (x : Nat) (s : Int) (hs : isStepP s) : Ctr l G yX11_time cX11_time 2 (Option.some FieldType.int) (rmO 2 0 0 43) [.ref x, .int (iZ s)] [] (Det (some (.int (iZ (chordF s)))) []) := by
  have e := m_X11_time l G x s ⟨by unfold isStepP at hs; omega, by unfold isStepP at hs; omega⟩
  rwa [if_pos (show s ≠ 0 ∧ -13859 ≤ s ∧ s ≤ 13859 from hs)] at e
theorem m_time_bad (l : Launch) (G : GT) (x : Nat) (s : Int) (hr : R32 s) (hs : ¬ (s ≠ 0 ∧ -13859 ≤ s ∧ s ≤ 13859)) : Ctr l G yX11_time cX11_time 2 (Option.some FieldType.int) (rmO 2 0 0 43) [.ref x, .int (iZ s)] [] (Det (some (.int (iZ (-100001)))) []) := by
  have e := m_X11_time l G x s hr
  rwa [if_neg hs] at e
theorem m_caustic_in (l : Launch) (G : GT) (x : Nat) (s : Int) (hs : isStepP s) : Ctr l G yX11_caustic cX11_caustic 2 (Option.some FieldType.int) (rmO 2 0 0 43) [.ref x, .int (iZ s)] [] (Det (some (.int (iZ (causF s)))) []) := by
  have e := m_X11_caustic l G x s ⟨by unfold isStepP at hs; omega, by unfold isStepP at hs; omega⟩
  rwa [if_pos (show s ≠ 0 ∧ -13859 ≤ s ∧ s ≤ 13859 from hs)] at e
theorem m_caustic_bad (l : Launch) (G : GT) (x : Nat) (s : Int) (hr : R32 s) (hs : ¬ (s ≠ 0 ∧ -13859 ≤ s ∧ s ≤ 13859)) : Ctr l G yX11_caustic cX11_caustic 2 (Option.some FieldType.int) (rmO 2 0 0 43) [.ref x, .int (iZ s)] [] (Det (some (.int (iZ (-100001)))) []) := by
  have e := m_X11_caustic l G x s hr
  rwa [if_neg hs] at e
theorem m_order_in (l : Launch) (G : GT) (x : Nat) (s : Int) (hs : isStepP s) : Ctr l G yX11_order cX11_order 2 (Option.some FieldType.int) (rmO 2 0 0 44) [.ref x, .int (iZ s)] [] (Det (some (.int (iZ (27720 / gcdF s)))) []) := by
  have e := m_X11_order l G x s ⟨by unfold isStepP at hs; omega, by unfold isStepP at hs; omega⟩
  rwa [if_pos (show s ≠ 0 ∧ -13859 ≤ s ∧ s ≤ 13859 from hs)] at e
theorem m_order_bad (l : Launch) (G : GT) (x : Nat) (s : Int) (hr : R32 s) (hs : ¬ (s ≠ 0 ∧ -13859 ≤ s ∧ s ≤ 13859)) : Ctr l G yX11_order cX11_order 2 (Option.some FieldType.int) (rmO 2 0 0 44) [.ref x, .int (iZ s)] [] (Det (some (.int (iZ (-100001)))) []) := by
  have e := m_X11_order l G x s hr
  rwa [if_neg hs] at e
theorem m_turns_in (l : Launch) (G : GT) (x : Nat) (s : Int) (hs : isStepP s) : Ctr l G yX11_turns cX11_turns 2 (Option.some FieldType.int) (rmO 2 0 0 44) [.ref x, .int (iZ s)] [] (Det (some (.int (iZ ((s.natAbs : Int) / gcdF s)))) []) := by
  have e := m_X11_turns l G x s ⟨by unfold isStepP at hs; omega, by unfold isStepP at hs; omega⟩
  rwa [if_pos (show s ≠ 0 ∧ -13859 ≤ s ∧ s ≤ 13859 from hs)] at e
theorem m_turns_bad (l : Launch) (G : GT) (x : Nat) (s : Int) (hr : R32 s) (hs : ¬ (s ≠ 0 ∧ -13859 ≤ s ∧ s ≤ 13859)) : Ctr l G yX11_turns cX11_turns 2 (Option.some FieldType.int) (rmO 2 0 0 44) [.ref x, .int (iZ s)] [] (Det (some (.int (iZ (-100001)))) []) := by
  have e := m_X11_turns l G x s hr
  rwa [if_neg hs] at e
theorem m_widest_bad (l : Launch) (G : GT) (x : Nat) (k : Int) (hr : R32 k) (hs : ¬ (0 ≤ k ∧ k ≤ 1000000)) : Ctr l G yX11_widest cX11_widest 2 (Option.some FieldType.int) (rmO 2 0 0 43) [.ref x, .int (iZ k)] [] (Det (some (.int (iZ (-100001)))) []) := by
  have e := m_X11_widest l G x k hr
  rwa [if_neg hs] at e
theorem m_aim_bad (l : Launch) (G : GT) (x : Nat) (p q k : Int) (hp : R32 p) (hq : R32 q) (hk : R32 k) (hs : ¬ ((0 ≤ p ∧ p < 27720) ∧ (0 ≤ q ∧ q < 27720) ∧ 1 ≤ k ∧ k ≤ 50)) : Ctr l G yX11_aim cX11_aim 5 (Option.some FieldType.int) (rmO 3 0 0 67) [.ref x, .int (iZ p), .int (iZ q), .int (iZ k)] [] (Det (some (.int (iZ (-100001)))) []) := by
  have e := m_X11_aim l G x p q k hp hq hk
  rwa [if_neg hs] at e
theorem m_aim_none2 (l : Launch) (G : GT) (x : Nat) (p q k : Int) (hs : (0 ≤ p ∧ p < 27720) ∧ (0 ≤ q ∧ q < 27720) ∧ 1 ≤ k ∧ k ≤ 50) (hn : aimF (q - p) k = 0) : Ctr l G yX11_aim cX11_aim 5 (Option.some FieldType.int) (rmO 3 0 0 67) [.ref x, .int (iZ p), .int (iZ q), .int (iZ k)] [] (Det (some (.int (iZ (-100009)))) []) := by
  have e := m_X11_aim l G x p q k (by omega) (by omega) (by omega)
  rwa [if_pos hs, if_pos hn] at e
theorem m_aim_in (l : Launch) (G : GT) (x : Nat) (p q k : Int) (hs : (0 ≤ p ∧ p < 27720) ∧ (0 ≤ q ∧ q < 27720) ∧ 1 ≤ k ∧ k ≤ 50) (hn : ¬ aimF (q - p) k = 0) : Ctr l G yX11_aim cX11_aim 5 (Option.some FieldType.int) (rmO 3 0 0 67) [.ref x, .int (iZ p), .int (iZ q), .int (iZ k)] [] (Det (some (.int (iZ (aimF (q - p) k)))) []) := by
  have e := m_X11_aim l G x p q k (by omega) (by omega) (by omega)
  rwa [if_pos hs, if_neg hn] at e
theorem m_hit_in (l : Launch) (G : GT) (x w hi tx sh : Nat) (rr lo mk ea pt : Nat) (m : Int) (lb lc : Nat) (nh ec es : Int) (Nn Ec : Int → Int) (i j : Int) (hh : 0 ≤ nh ∧ nh ≤ 600) (hi2 : 0 ≤ i ∧ i < nh) (hj : 0 ≤ j ∧ j < 5) : Ctr l G yX11_hit cX11_hit 3 (Option.some FieldType.long) (rmO 1 0 0 22) [.ref x, .int (iZ i), .int (iZ j)] [(x, .inr (10, [.ref w, .ref hi, .ref tx, .ref sh])), (sh, .inr (7, [.ref rr, .ref lo, .ref mk, .ref ea, .ref pt, .int (iZ m)])), (lo, .inr (2, [.ref lb, .ref lc, .int (iZ nh), .int (iZ ec), .long (lZ es)])), (lb, .inl (G.2 1, 3000, .inr (.inl (lF Nn)))), (lc, .inl (G.2 0, 600, .inl (iF Ec)))] (Det (some (.long (lZ (Nn (i * 5 + j))))) [(x, .inr (10, [.ref w, .ref hi, .ref tx, .ref sh])), (sh, .inr (7, [.ref rr, .ref lo, .ref mk, .ref ea, .ref pt, .int (iZ m)])), (lo, .inr (2, [.ref lb, .ref lc, .int (iZ nh), .int (iZ ec), .long (lZ es)])), (lb, .inl (G.2 1, 3000, .inr (.inl (lF Nn)))), (lc, .inl (G.2 0, 600, .inl (iF Ec)))]) := by
  have e := m_X11_hit l G x w hi tx sh rr lo mk ea pt m lb lc nh ec es Nn Ec i j hh (by omega) (by omega)
  rwa [numL, if_pos (by omega)] at e
theorem m_hit_bad (l : Launch) (G : GT) (x w hi tx sh : Nat) (rr lo mk ea pt : Nat) (m : Int) (lb lc : Nat) (nh ec es : Int) (Nn Ec : Int → Int) (i j : Int) (hh : 0 ≤ nh ∧ nh ≤ 600) (hi2 : R32 i) (hj : R32 j) (hA : ¬ (0 ≤ i ∧ i < nh ∧ 0 ≤ j ∧ j < 5)) : Ctr l G yX11_hit cX11_hit 3 (Option.some FieldType.long) (rmO 1 0 0 22) [.ref x, .int (iZ i), .int (iZ j)] [(x, .inr (10, [.ref w, .ref hi, .ref tx, .ref sh])), (sh, .inr (7, [.ref rr, .ref lo, .ref mk, .ref ea, .ref pt, .int (iZ m)])), (lo, .inr (2, [.ref lb, .ref lc, .int (iZ nh), .int (iZ ec), .long (lZ es)])), (lb, .inl (G.2 1, 3000, .inr (.inl (lF Nn)))), (lc, .inl (G.2 0, 600, .inl (iF Ec)))] (Det (some (.long (lZ (-100001)))) [(x, .inr (10, [.ref w, .ref hi, .ref tx, .ref sh])), (sh, .inr (7, [.ref rr, .ref lo, .ref mk, .ref ea, .ref pt, .int (iZ m)])), (lo, .inr (2, [.ref lb, .ref lc, .int (iZ nh), .int (iZ ec), .long (lZ es)])), (lb, .inl (G.2 1, 3000, .inr (.inl (lF Nn)))), (lc, .inl (G.2 0, 600, .inl (iF Ec)))]) := by
  have e := m_X11_hit l G x w hi tx sh rr lo mk ea pt m lb lc nh ec es Nn Ec i j hh hi2 hj
  rwa [numL, if_neg hA] at e
theorem m_echo_in (l : Launch) (G : GT) (x w hi tx sh : Nat) (rr lo mk ea pt : Nat) (m : Int) (lb lc : Nat) (nh ec es : Int) (Nn Ec : Int → Int) (i : Int) (hec : 0 ≤ ec ∧ ec ≤ 600) (hi2 : 0 ≤ i ∧ i < ec) : Ctr l G yX11_echo cX11_echo 2 (Option.some FieldType.int) (rmO 1 0 0 21) [.ref x, .int (iZ i)] [(x, .inr (10, [.ref w, .ref hi, .ref tx, .ref sh])), (sh, .inr (7, [.ref rr, .ref lo, .ref mk, .ref ea, .ref pt, .int (iZ m)])), (lo, .inr (2, [.ref lb, .ref lc, .int (iZ nh), .int (iZ ec), .long (lZ es)])), (lb, .inl (G.2 1, 3000, .inr (.inl (lF Nn)))), (lc, .inl (G.2 0, 600, .inl (iF Ec)))] (Det (some (.int (iZ (Ec i)))) [(x, .inr (10, [.ref w, .ref hi, .ref tx, .ref sh])), (sh, .inr (7, [.ref rr, .ref lo, .ref mk, .ref ea, .ref pt, .int (iZ m)])), (lo, .inr (2, [.ref lb, .ref lc, .int (iZ nh), .int (iZ ec), .long (lZ es)])), (lb, .inl (G.2 1, 3000, .inr (.inl (lF Nn)))), (lc, .inl (G.2 0, 600, .inl (iF Ec)))]) := by
  have e := m_X11_echo l G x w hi tx sh rr lo mk ea pt m lb lc nh ec es Nn Ec i hec (by omega)
  rwa [echoF, if_neg (by omega), if_pos hi2.2] at e
theorem m_echo_none (l : Launch) (G : GT) (x w hi tx sh : Nat) (rr lo mk ea pt : Nat) (m : Int) (lb lc : Nat) (nh ec es : Int) (Nn Ec : Int → Int) (i : Int) (hec : 0 ≤ ec ∧ ec ≤ 600) (hi2 : ec ≤ i ∧ i ≤ 600) : Ctr l G yX11_echo cX11_echo 2 (Option.some FieldType.int) (rmO 1 0 0 21) [.ref x, .int (iZ i)] [(x, .inr (10, [.ref w, .ref hi, .ref tx, .ref sh])), (sh, .inr (7, [.ref rr, .ref lo, .ref mk, .ref ea, .ref pt, .int (iZ m)])), (lo, .inr (2, [.ref lb, .ref lc, .int (iZ nh), .int (iZ ec), .long (lZ es)])), (lb, .inl (G.2 1, 3000, .inr (.inl (lF Nn)))), (lc, .inl (G.2 0, 600, .inl (iF Ec)))] (Det (some (.int (iZ (-100009)))) [(x, .inr (10, [.ref w, .ref hi, .ref tx, .ref sh])), (sh, .inr (7, [.ref rr, .ref lo, .ref mk, .ref ea, .ref pt, .int (iZ m)])), (lo, .inr (2, [.ref lb, .ref lc, .int (iZ nh), .int (iZ ec), .long (lZ es)])), (lb, .inl (G.2 1, 3000, .inr (.inl (lF Nn)))), (lc, .inl (G.2 0, 600, .inl (iF Ec)))]) := by
  have e := m_X11_echo l G x w hi tx sh rr lo mk ea pt m lb lc nh ec es Nn Ec i hec (by omega)
  rwa [echoF, if_neg (by omega), if_neg (by omega)] at e
theorem m_echo_bad (l : Launch) (G : GT) (x w hi tx sh : Nat) (rr lo mk ea pt : Nat) (m : Int) (lb lc : Nat) (nh ec es : Int) (Nn Ec : Int → Int) (i : Int) (hec : 0 ≤ ec ∧ ec ≤ 600) (hi2 : R32 i) (hA : i < 0) : Ctr l G yX11_echo cX11_echo 2 (Option.some FieldType.int) (rmO 1 0 0 21) [.ref x, .int (iZ i)] [(x, .inr (10, [.ref w, .ref hi, .ref tx, .ref sh])), (sh, .inr (7, [.ref rr, .ref lo, .ref mk, .ref ea, .ref pt, .int (iZ m)])), (lo, .inr (2, [.ref lb, .ref lc, .int (iZ nh), .int (iZ ec), .long (lZ es)])), (lb, .inl (G.2 1, 3000, .inr (.inl (lF Nn)))), (lc, .inl (G.2 0, 600, .inl (iF Ec)))] (Det (some (.int (iZ (-100001)))) [(x, .inr (10, [.ref w, .ref hi, .ref tx, .ref sh])), (sh, .inr (7, [.ref rr, .ref lo, .ref mk, .ref ea, .ref pt, .int (iZ m)])), (lo, .inr (2, [.ref lb, .ref lc, .int (iZ nh), .int (iZ ec), .long (lZ es)])), (lb, .inl (G.2 1, 3000, .inr (.inl (lF Nn)))), (lc, .inl (G.2 0, 600, .inl (iF Ec)))]) := by
  have e := m_X11_echo l G x w hi tx sh rr lo mk ea pt m lb lc nh ec es Nn Ec i hec (by omega)
  rwa [echoF, if_pos hA] at e
theorem m_heard_in (l : Launch) (G : GT) (x w hi tx sh : Nat) (rr lo mk ea pt : Nat) (m : Int) (eb : Nat) (A : Int → Int) (i j : Int) (hi2 : 0 ≤ i ∧ i < 12) (hj : 0 ≤ j ∧ j < 4) : Ctr l G yX11_heard cX11_heard 3 (Option.some FieldType.long) (rmO 1 0 0 22) [.ref x, .int (iZ i), .int (iZ j)] [(x, .inr (10, [.ref w, .ref hi, .ref tx, .ref sh])), (sh, .inr (7, [.ref rr, .ref lo, .ref mk, .ref ea, .ref pt, .int (iZ m)])), (ea, .inr (0, [.ref eb])), (eb, .inl (G.2 1, 48, .inr (.inl (lF A))))] (Det (some (.long (lZ (A (i * 4 + j))))) [(x, .inr (10, [.ref w, .ref hi, .ref tx, .ref sh])), (sh, .inr (7, [.ref rr, .ref lo, .ref mk, .ref ea, .ref pt, .int (iZ m)])), (ea, .inr (0, [.ref eb])), (eb, .inl (G.2 1, 48, .inr (.inl (lF A))))]) := by
  have e := m_X11_heard l G x w hi tx sh rr lo mk ea pt m eb A i j (by omega) (by omega)
  rwa [earL, if_pos (by omega)] at e
theorem m_heard_bad (l : Launch) (G : GT) (x w hi tx sh : Nat) (rr lo mk ea pt : Nat) (m : Int) (eb : Nat) (A : Int → Int) (i j : Int) (hi2 : R32 i) (hj : R32 j) (hA : ¬ (0 ≤ i ∧ i < 12 ∧ 0 ≤ j ∧ j < 4)) : Ctr l G yX11_heard cX11_heard 3 (Option.some FieldType.long) (rmO 1 0 0 22) [.ref x, .int (iZ i), .int (iZ j)] [(x, .inr (10, [.ref w, .ref hi, .ref tx, .ref sh])), (sh, .inr (7, [.ref rr, .ref lo, .ref mk, .ref ea, .ref pt, .int (iZ m)])), (ea, .inr (0, [.ref eb])), (eb, .inl (G.2 1, 48, .inr (.inl (lF A))))] (Det (some (.long (lZ (-100001)))) [(x, .inr (10, [.ref w, .ref hi, .ref tx, .ref sh])), (sh, .inr (7, [.ref rr, .ref lo, .ref mk, .ref ea, .ref pt, .int (iZ m)])), (ea, .inr (0, [.ref eb])), (eb, .inl (G.2 1, 48, .inr (.inl (lF A))))]) := by
  have e := m_X11_heard l G x w hi tx sh rr lo mk ea pt m eb A i j hi2 hj
  rwa [earL, if_neg hA] at e
theorem m_part_in (l : Launch) (G : GT) (x w hi tx sh : Nat) (pw aw : Nat) (n lo2 z : Int) (f : Int → Int) (i j : Int) (hn : 0 ≤ n ∧ n ≤ 12) (hi2 : 0 ≤ i ∧ i < n) (hj : 0 ≤ j ∧ j < 4) : Ctr l G yX11_part cX11_part 3 (Option.some FieldType.int) (rmO 2 0 0 43) [.ref x, .int (iZ i), .int (iZ j)] [(x, .inr (10, [.ref w, .ref hi, .ref tx, .ref sh])), (w, .inr (9, [.ref pw, .int (iZ lo2), .int (iZ z)])), (pw, .inr (3, [.ref aw, .int (iZ n)])), (aw, .inl (G.2 0, 48, .inl (iF f)))] (Det (some (.int (iZ (f (i * 4 + j))))) [(x, .inr (10, [.ref w, .ref hi, .ref tx, .ref sh])), (w, .inr (9, [.ref pw, .int (iZ lo2), .int (iZ z)])), (pw, .inr (3, [.ref aw, .int (iZ n)])), (aw, .inl (G.2 0, 48, .inl (iF f)))]) := by
  have e := m_X11_part l G x w hi tx sh pw aw n lo2 z f i j hn (by omega) (by omega)
  rwa [numF, if_pos (by omega)] at e
theorem m_part_bad (l : Launch) (G : GT) (x w hi tx sh : Nat) (pw aw : Nat) (n lo2 z : Int) (f : Int → Int) (i j : Int) (hn : 0 ≤ n ∧ n ≤ 12) (hi2 : R32 i) (hj : R32 j) (hA : ¬ (0 ≤ i ∧ i < n ∧ 0 ≤ j ∧ j < 4)) : Ctr l G yX11_part cX11_part 3 (Option.some FieldType.int) (rmO 2 0 0 43) [.ref x, .int (iZ i), .int (iZ j)] [(x, .inr (10, [.ref w, .ref hi, .ref tx, .ref sh])), (w, .inr (9, [.ref pw, .int (iZ lo2), .int (iZ z)])), (pw, .inr (3, [.ref aw, .int (iZ n)])), (aw, .inl (G.2 0, 48, .inl (iF f)))] (Det (some (.int (iZ (-100001)))) [(x, .inr (10, [.ref w, .ref hi, .ref tx, .ref sh])), (w, .inr (9, [.ref pw, .int (iZ lo2), .int (iZ z)])), (pw, .inr (3, [.ref aw, .int (iZ n)])), (aw, .inl (G.2 0, 48, .inl (iF f)))]) := by
  have e := m_X11_part l G x w hi tx sh pw aw n lo2 z f i j hn hi2 hj
  rwa [numF, if_neg hA] at e
set_option maxHeartbeats 4000000 in
set_option maxRecDepth 100000 in
theorem m_L_up (l : Launch) (G : GT) (a n : Int) (ha : R32 a) (hn : 0 < n ∧ n < 2147483648) : Ctr l G yL_up cL_up 2 (Option.some FieldType.int) (rmO 0 0 0 0) [.int (iZ a), .int (iZ n)] [] (Det (some (.int (iZ (upF a n)))) []) := by
  refine Ctr.go (own := RL) (nm := "up") (by decide +kernel) rfl rfl [some (.int (iZ a)), some (.int (iZ n))] 0 rfl rfl (Nat.le_of_ble_eq_true rfl) ?_
  intro K h hF
  have h1 := and31 a
  have h2 := and_R a 2147483647
  refine V_iload_n h (dk dd_L_up_0 0 rfl) rfl get0 ?_
  refine V_ldc h q3_63 (dk dd_L_up_0 1 rfl) ?_
  refine V_iand h (dk dd_L_up_0 2 rfl) ?_
  refine V_iload_n h (dk dd_L_up_0 3 rfl) rfl get1 ?_
  refine V_iremP h (dk dd_L_up_0 4 rfl) (by omega) ?_
  refine V_iret h hF (dk dd_L_up_0 5 rfl) ⟨Nat.le_of_ble_eq_true rfl, Nat.le_of_ble_eq_true rfl⟩ ?_
  exact det_i rfl rfl

set_option maxHeartbeats 4000000 in
set_option maxRecDepth 100000 in
theorem m_L_step (l : Launch) (G : GT) (q : Int) (hq : R32 q) : Ctr l G yL_step cL_step 2 (Option.some FieldType.int) (rmO 1 0 0 21) [.int (iZ q)] [] (Det (some (.int (iZ (stepF q)))) []) := by
  refine Ctr.go (own := RL) (nm := "step") (by decide +kernel) rfl rfl [some (.int (iZ q)), none] 1 rfl rfl (Nat.le_of_ble_eq_true rfl) ?_
  intro K h hF
  have h1 := up_R q (show (0 : Int) < 13859 by decide)
  have h2 := and_R (shrZ q 16) 1
  refine V_iconst h (dk dd_L_step_0 0 rfl) ?_
  refine V_iload_n h (dk dd_L_step_0 1 rfl) rfl get0 ?_
  refine V_sipush h (dk dd_L_step_0 2 rfl) (by decide) ?_
  refine V_callS h st2 ci_L_103 pk_n rfl (m_L_up l G _ _ (by omega) (by omega)) rfl rfl (Nat.le_of_ble_eq_true rfl) (by decide) ⟨rfl, rfl, rfl⟩ (dk dd_L_step_0 3 rfl) sk1 sm_n ?_
  refine V_iadd h (dk dd_L_step_0 4 rfl) ?_
  refine V_istore_n h (dk dd_L_step_0 5 rfl) rfl (Nat.le_of_ble_eq_true rfl) rfl set1 ?_
  refine V_iload_n h (dk dd_L_step_0 6 rfl) rfl get0 ?_
  refine V_bipush h (dk dd_L_step_0 7 rfl) (by decide) ?_
  refine V_ishr h (dk dd_L_step_0 8 rfl) ?_
  refine V_iconst h (dk dd_L_step_0 9 rfl) ?_
  refine V_iand h (dk dd_L_step_0 10 rfl) ?_
  refine V_if_ne (tgt := 23) h (dk dd_L_step_0 11 rfl) rfl (by omega) (fun c16 => ?_) (fun c16 => ?_)
  · refine V_iload_n h (dk dd_L_step_0 14 rfl) rfl get1 ?_
    refine V_ineg h (dk dd_L_step_0 15 rfl) ?_
    refine V_iret h hF (dk dd_L_step_0 16 rfl) ⟨Nat.le_of_ble_eq_true rfl, Nat.le_of_ble_eq_true rfl⟩ ?_
    exact det_i (by unfold stepF; first | rw [if_pos (by assumption)] | rw [if_neg (by assumption)]) rfl
  · refine V_iload_n h (dk dd_L_step_0 12 rfl) rfl get1 ?_
    refine V_goto (tgt := 25) h (dk dd_L_step_0 13 rfl) rfl ?_
    refine V_iret h hF (dk dd_L_step_0 16 rfl) ⟨Nat.le_of_ble_eq_true rfl, Nat.le_of_ble_eq_true rfl⟩ ?_
    exact det_i (by unfold stepF; first | rw [if_pos (by assumption)] | rw [if_neg (by assumption)]) rfl

set_option maxHeartbeats 4000000 in
set_option maxRecDepth 100000 in
theorem m_L_cell (l : Launch) (G : GT) (b Ln : Nat) (sc : Int → Int) (k : Int) (hk : 0 ≤ k ∧ k < 1000) (hsc : ∀ j, R32 (sc j)) (hLn : (Ln : Int) ≤ 260) : CtrX l G b Ln sc yL_cell cL_cell 2 (Option.some FieldType.int) (rmO 0 0 0 0) [.ref b, .int (iZ k)] [] (Det (some (.int (iZ (cellF sc Ln k)))) []) := by
  refine CtrX.go (own := RL) (nm := "cell") (by decide +kernel) rfl rfl [some (.ref b), some (.int (iZ k))] 0 rfl rfl (Nat.le_of_ble_eq_true rfl) ?_
  intro K h hF hSc
  refine V_iload_n h (dk dd_L_cell_0 0 rfl) rfl get1 ?_
  refine V_aload_n h (dk dd_L_cell_0 1 rfl) rfl get0 ?_
  refine V_slenS h hSc (dk dd_L_cell_0 2 rfl) ?_
  refine V_icmp_ge (tgt := 12) h (dk dd_L_cell_0 3 rfl) rfl (by omega) (fun c3 => ?_) (fun c3 => ?_)
  · refine V_ldc h q3_59 (dk dd_L_cell_0 8 rfl) ?_
    refine V_iload_n h (dk dd_L_cell_0 9 rfl) rfl get1 ?_
    refine V_iconst h (dk dd_L_cell_0 10 rfl) ?_
    refine V_iadd h (dk dd_L_cell_0 11 rfl) ?_
    refine V_imul h (dk dd_L_cell_0 12 rfl) ?_
    refine V_iret h hF (dk dd_L_cell_0 13 rfl) ⟨Nat.le_of_ble_eq_true rfl, Nat.le_of_ble_eq_true rfl⟩ ?_
    exact ⟨by rw [cell_f (sc := sc) (Ln := Ln) (k := k) (by omega)], rfl⟩
  · refine V_aload_n h (dk dd_L_cell_0 4 rfl) rfl get0 ?_
    refine V_iload_n h (dk dd_L_cell_0 5 rfl) rfl get1 ?_
    refine V_sld h hSc (by omega) (dk dd_L_cell_0 6 rfl) ?_
    refine V_goto (tgt := 18) h (dk dd_L_cell_0 7 rfl) rfl ?_
    refine V_iret h hF (dk dd_L_cell_0 13 rfl) ⟨Nat.le_of_ble_eq_true rfl, Nat.le_of_ble_eq_true rfl⟩ ?_
    exact det_i (cell_t c3).symm rfl

