/-! string constants: contracts that know of them -/
def sLen : List Nat := [4, 4, 4, 5, 4]
def sByt : List (List Int32) := [[iZ 115, iZ 111, iZ 97, iZ 107], [iZ 98, iZ 97, iZ 99, iZ 107], [iZ 116, iZ 105, iZ 108, iZ 116], [iZ 115, iZ 112, iZ 108, iZ 105, iZ 116], [iZ 104, iZ 101, iZ 97, iZ 114]]
def sCh (i j : Int) : Int := (([[115, 111, 97, 107], [98, 97, 99, 107], [116, 105, 108, 116], [115, 112, 108, 105, 116], [104, 101, 97, 114]] : List (List Int)).getD i.toNat []).getD j.toNat 0
def sL (i : Int) : Int := if i = 3 then 5 else 4
abbrev AdT : Type := (Nat → Nat) × (Nat → Nat) × Nat
def SS (ad : AdT) (A : Nat → Prop) (U : State) (H : Heap) : Prop := vk_S 5 sLen sByt ad.1 ad.2.1 A U H ∧ va_Z "java/lang/String" "COMPACT_STRINGS" "Z" (.int (iZ 1)) A U H ∧ va_Zq "jdk/internal/util/Preconditions" "SIOOBE_FORMATTER" "Ljava/util/function/BiFunction;" A U H ∧
  vk_R RX4 31 "soak" (ad.1 0) U ∧ vk_R RX4 33 "back" (ad.1 1) U ∧ vk_R RX4 35 "tilt" (ad.1 2) U ∧ vk_R RX4 37 "split" (ad.1 3) U ∧ vk_R RX4 39 "hear" (ad.1 4) U
theorem SS.moved {ad : AdT} {A : Nat → Prop} {s U : State} {H : Heap} (hW : s.WarmedH U.vm) (h : SS ad A s H) : SS ad A U H := ⟨h.1.moved hW.alike, h.2.1.moved hW.alike, h.2.2.1.moved hW.alike, h.2.2.2.1.warm hW, h.2.2.2.2.1.warm hW, h.2.2.2.2.2.1.warm hW, h.2.2.2.2.2.2.1.warm hW, h.2.2.2.2.2.2.2.warm hW⟩
theorem SS.same {ad : AdT} {A : Nat → Prop} {u U : State} {H : Heap} (hv : u.vm = U.vm) (h : SS ad A u H) : SS ad A U H := by
  have al : u.vm.Alike U.vm := by rw [hv]; exact Vm.Alike.refl U.vm
  exact ⟨h.1.moved al, h.2.1.moved al, h.2.2.1.moved al, h.2.2.2.1.same hv.symm, h.2.2.2.2.1.same hv.symm, h.2.2.2.2.2.1.same hv.symm, h.2.2.2.2.2.2.1.same hv.symm, h.2.2.2.2.2.2.2.same hv.symm⟩
theorem SS.kept {ad : AdT} {A : Nat → Prop} {U : State} {H H1 : Heap} (hq : ∀ a : Nat, a < H.size → ¬ A a → H1[a]? = H[a]?) (h : SS ad A U H) : SS ad A U H1 := ⟨h.1.kept hq, h.2.1.kept hq, h.2.2.1.kept hq, h.2.2.2⟩
theorem SS.narrow {ad : AdT} {A B : Nat → Prop} {U : State} {H : Heap} (hAB : ∀ q, B q → A q) (h : SS ad A U H) : SS ad B U H := ⟨h.1.narrow hAB, h.2.1.narrow hAB, h.2.2.1.narrow hAB, h.2.2.2⟩
def CtrS (l : Launch) (G : GT) (ad : AdT) (y : MethodName) (cc : ByteArray) (nL : Nat) (rt : Option FieldType) (rm : Room) (as : List Value) (ws : va_W) (PO : Option Value → va_W → Prop) : Prop :=
  ∀ sz : Nat, Met l y (.code y cc nL rt :: lw_all) rm (va_Pc as (fun U => (U.heap.size = sz ∧ va_P G.1 vwCl ws U.heap ∧ KK G U ∧ va_D (fun _ => True) ws) ∧ SS ad (va_A ws sz) U U.heap)) (Qof G PO (va_A ws sz)) rm.cells rm.slots (va_A ws sz)
def StrK (ad : AdT) (K : KT) : Prop := SS ad K.2.2.2.2.2 K.2.1.1 K.2.1.1.heap
section STRS
variable {l : Launch} {G : GT} {ad : AdT} {own nm : String} {cc : ByteArray} {nL : Nat} {rm : Room} {K : KT} {cs : Nat × Nat} {pc : Nat} {lv lv' : List (Option Value)} {st st' rest : List Value} {ws ws' wc w1 : va_W} {PO : Option Value → va_W → Prop} {mc ms : Nat}
variable {y : MethodName} {cy : ByteArray} {nLy n idx : Nat} {rt : Option FieldType} {rmy : Room} {as : List Value} {isC : List Nat}
theorem CtrS.go (hy : plainFor y = true) (hown : y.cls = own) (hnm : y.name = nm) (lv : List (Option Value)) (k : Nat) (hlv : lvOf as ++ List.replicate k none = lv) (hn : lv.length = nL) (hlen : (lg_sl as).length ≤ nL)
    (body : ∀ K : KT, Good l G own nm cc nL rm K → Fini rt rm.cells rm.slots PO K → StrK ad K → V K (0, 0) 0 lv [] ws) : CtrS l G ad y cc nL rt rm as ws PO := by
  intro sz
  refine va_MetF (cc := cc) (maxL := nL) (ret := rt) hy rfl ?_
  intro p e s m args below meth c s₁ B hml hv
  obtain ⟨rfl, ⟨hsz, hP, hK, hD0⟩, hSS⟩ := hv
  have hts := atoms_spec (ws := .code y cc nL rt :: lw_all) B.pre
  have hown2 : s.vm.findClass own = some m.cls := by rw [← hown]; exact findClass_of_methodNamed B.named
  have hin : meth.name = nm := by rw [← hnm]; exact (name_of_methodNamed B.named B.method).1
  subst hsz
  have hD := hD0.self (sz := s.heap.size)
  have hl := lv_entry as (n := nL) hlen
  rw [lg_entry_eq]
  have hlv2 : ∀ (i : Nat) (v : Value), lv[i]? = some (some v) → (i, v) ∈ lv_args 0 as := fun i v h => by
    have e := lvOf_mem as k 0 i v (by rw [hlv]; exact h)
    rwa [Nat.zero_add] at e
  exact body ((p, l, e, rm), (s, m, as.toArray, below), (meth, c), MQ below (Qof G PO (va_A ws s.heap.size)) as.toArray s rm.cells rm.slots (va_A ws s.heap.size), G, va_A ws s.heap.size)
    ⟨B.exec, B.bytes, hml, hown2, fun w h => hts w (List.mem_cons_of_mem _ h), hK, fun q h => Or.inr h, hin, rfl, rfl, rfl⟩ ⟨rfl, B.returns, B.notSynchronized⟩ hSS s.heap [] _ hP hD va_S.rf (hasL.of hl hn hlv2)
theorem preS_blind {as : List Value} {sz : Nat} {wc : va_W} {A : Nat → Prop} : FrameBlind (va_Pc as (fun U => (U.heap.size = sz ∧ va_P G.1 vwCl wc U.heap ∧ KK G U ∧ va_D (fun _ => True) wc) ∧ SS ad A U U.heap)) :=
  fun a U g mk q => ⟨q.1, ⟨q.2.1.1, q.2.1.2.1, KK.same (u := U) (U := U.calling g mk a) rfl q.2.1.2.2.1, q.2.1.2.2.2⟩, SS.same (u := U) (U := U.calling g mk a) rfl q.2.2⟩
theorem V_callSs (h : Good l G own nm cc nL rm K) (hK : StrK ad K) {v : Option Value} (hst : st = as.reverse ++ rest) (hci : CIs own idx y cy nLy rt n) (hpk : Pk isC ws wc) (hnd : va_nd isC = true) (hM : CtrS l G ad y cy nLy rt rmy as wc (Det v w1)) (hn : as.length = n) (hlv : lv.length = nL) (hroom : (rest.map fun v => v.category).sum ≤ 8)
    (hrm : rmy.frames + 1 ≤ rm.frames ∧ 8 + (nLy + 11) + rmy.locals ≤ rm.locals) (hz : rmy.cells = 0 ∧ rmy.slots = 0 ∧ cs = (0, 0)) (hd : decode cc pc = .ok (.invokestatic idx, 3)) (hsk : stk v rest = st') (hsm : Sm ws isC w1 ws')
    (k : V K cs (pc + 3) lv st' ws') : V K cs pc lv st ws := by
  intro H locs ls hP hD hS hL
  have hF := Pk_free hpk hD hS h.2.2.2.2.2.2.1
  obtain ⟨z1, z2, rfl⟩ := hz
  obtain ⟨hx, hb, hml, hown, hts, hKK, hA, hnm, hl, hG, hR⟩ := h
  subst hl; subst hG; subst hR
  refine va_callX (va_runS (As := as) (rest := rest) ⟨hx, hb, hml, hown, hts⟩ (hM H.size) (va_cwS n hts hci.1 rfl rfl rfl hci.2 hrm) ⟨preS_blind, fun U hU hW => ⟨rfl, ⟨by rw [hU], by rw [hU]; exact Pk_P hpk hP, hKK.moved hW, ?_⟩, by rw [hU]; exact ((hK.kept hS.2.1).narrow hF).moved hW⟩⟩ rfl hn (hL.1.trans hlv) hst (lv_room hroom) hd ⟨by rw [z1]; exact Nat.zero_le _, by rw [z2]; exact Nat.zero_le _⟩) hS hF (fun v w H1 locs1 hp hP1 hD1 hz hk hS1 => ?_)
  · refine ⟨fun i j p q hi hj hpq => ?_, fun _ _ _ => trivial⟩
    obtain ⟨a, a1, a2⟩ := Pk_sp hpk i p hi
    obtain ⟨b, b1, b2⟩ := Pk_sp hpk j q hj
    have hab := hD.1 a b p q a2 b2 hpq
    subst hab
    exact va_nd_inj isC hnd i j a a1 b1
  · obtain ⟨rfl, rfl⟩ := hp
    obtain ⟨hP2, hD2⟩ := va_back hP hD hpk hnd hk hF hP1 hD1 hsm
    rw [stk_eq, hsk, z1, z2]
    exact k H1 locs1 ls hP2 hD2 hS1 hL
theorem V_callVx (h : Good l G own nm cc nL rm K) (hK : StrK ad K) {v : Option Value} {b : Nat} (hst : st = (.ref b :: as).reverse ++ rest) (hci : CIv own idx y cy nLy rt n) (hpk : Pk isC ws wc) (hnd : va_nd isC = true) (hrec : ∀ (H : Heap) (locs : List Loc), va_P G.1 vwCl ws H → va_S K.2.2.2.2.2 K.2.1.1.heap H locs → ∃ cellB : Cell, H[b]? = some cellB ∧ cellB.vm.isStatics = false ∧ K.2.1.1.vm.findClass y.cls = some cellB.cls) (hM : CtrS l G ad y cy nLy rt rmy (.ref b :: as) wc (Det v w1)) (hn : as.length = n) (hlv : lv.length = nL) (hroom : (rest.map fun v => v.category).sum ≤ 8)
    (hrm : rmy.frames + 1 ≤ rm.frames ∧ 8 + (nLy + 11) + rmy.locals ≤ rm.locals) (hz : rmy.cells = 0 ∧ rmy.slots = 0 ∧ cs = (0, 0)) (hd : decode cc pc = .ok (.invokevirtual idx, 3)) (hsk : stk v rest = st') (hsm : Sm ws isC w1 ws')
    (k : V K cs (pc + 3) lv st' ws') : V K cs pc lv st ws := by
  intro H locs ls hP hD hS hL
  have hF := Pk_free hpk hD hS h.2.2.2.2.2.2.1
  obtain ⟨z1, z2, rfl⟩ := hz
  obtain ⟨hx, hb, hml, hown, hts, hKK, hA, hnm, hl, hG, hR⟩ := h
  subst hl; subst hG; subst hR
  refine va_callX (va_runV (As := as) (rest := rest) ⟨hx, hb, hml, hown, hts⟩ (hM H.size) (cwV n hts hci.1 rfl rfl rfl ⟨rfl, hci.2⟩ hrm) ⟨preS_blind, hrec H locs hP hS, fun U hU hW => ⟨rfl, ⟨by rw [hU], by rw [hU]; exact Pk_P hpk hP, hKK.moved hW, ?_⟩, by rw [hU]; exact ((hK.kept hS.2.1).narrow hF).moved hW⟩⟩ rfl hn (hL.1.trans hlv) (hst.trans (by rw [List.reverse_cons, List.append_assoc]; rfl)) (lv_room hroom) hd ⟨by rw [z1]; exact Nat.zero_le _, by rw [z2]; exact Nat.zero_le _⟩) hS hF (fun v w H1 locs1 hp hP1 hD1 hz hk hS1 => ?_)
  · refine ⟨fun i j p q hi hj hpq => ?_, fun _ _ _ => trivial⟩
    obtain ⟨a, a1, a2⟩ := Pk_sp hpk i p hi
    obtain ⟨b, b1, b2⟩ := Pk_sp hpk j q hj
    have hab := hD.1 a b p q a2 b2 hpq
    subst hab
    exact va_nd_inj isC hnd i j a a1 b1
  · obtain ⟨rfl, rfl⟩ := hp
    obtain ⟨hP2, hD2⟩ := va_back hP hD hpk hnd hk hF hP1 hD1 hsm
    rw [stk_eq, hsk, z1, z2]
    exact k H1 locs1 ls hP2 hD2 hS1 hL
theorem V_callVs (h : Good l G own nm cc nL rm K) (hK : StrK ad K) {v : Option Value} {b ci : Nat} {fs : List Value} {T : u_T} {N : Nat} (hst : st = (.ref b :: as).reverse ++ rest) (hci : CIv own idx y cy nLy rt n) (hpk : Pk isC ws wc) (hnd : va_nd isC = true) (q0 : Nat) (he : ws[q0]? = some (b, .inr (ci, fs))) (hc : vwCl[ci]? = some (y.cls, T, N)) (hM : CtrS l G ad y cy nLy rt rmy (.ref b :: as) wc (Det v w1)) (hn : as.length = n) (hlv : lv.length = nL) (hroom : (rest.map fun v => v.category).sum ≤ 8)
    (hrm : rmy.frames + 1 ≤ rm.frames ∧ 8 + (nLy + 11) + rmy.locals ≤ rm.locals) (hz : rmy.cells = 0 ∧ rmy.slots = 0 ∧ cs = (0, 0)) (hd : decode cc pc = .ok (.invokevirtual idx, 3)) (hsk : stk v rest = st') (hsm : Sm ws isC w1 ws')
    (k : V K cs (pc + 3) lv st' ws') : V K cs pc lv st ws :=
  V_callVx h hK hst hci hpk hnd (fun H locs hP hS => by
    have hG := h.2.2.2.2.2.2.2.2.2.1
    subst hG
    exact va_recv h.2.2.2.2.2.1.1 hP hc he) hM hn hlv hroom hrm hz hd hsk hsm k
/-- the receiver is the string constant i -/
theorem V_callVt (h : Good l G own nm cc nL rm K) (hK : StrK ad K) {v : Option Value} (i : Nat) (hi : i < 5) (hst : st = (.ref (ad.1 i) :: as).reverse ++ rest) (hci : CIv own idx y cy nLy rt n) (hcl : y.cls = "java/lang/String") (hM : CtrS l G ad y cy nLy rt rmy (.ref (ad.1 i) :: as) [] (Det v [])) (hn : as.length = n) (hlv : lv.length = nL) (hroom : (rest.map fun v => v.category).sum ≤ 8)
    (hrm : rmy.frames + 1 ≤ rm.frames ∧ 8 + (nLy + 11) + rmy.locals ≤ rm.locals) (hz : rmy.cells = 0 ∧ rmy.slots = 0 ∧ cs = (0, 0)) (hd : decode cc pc = .ok (.invokevirtual idx, 3)) (hsk : stk v rest = st')
    (k : V K cs (pc + 3) lv st' ws) : V K cs pc lv st ws :=
  V_callVx h hK hst hci pk_n rfl (fun H locs hP hS => by rw [hcl]; exact vk_recv hK.1 hi hS) hM hn hlv hroom hrm hz hd hsk sm_n k
theorem V_ldcS (h : Good l G own nm cc nL rm K) {tx : String} {q : Nat} (hq : vk_R own idx tx q K.2.1.1) (hd : decode cc pc = .ok (.ldc idx, 2)) (k : V K cs (pc + 2) lv (.ref q :: st) ws) : V K cs pc lv st ws := fun H locs ls hP hD hS hL => va_ldcS h.1 h.2.1 h.2.2.2.1 hq hd (k H locs ls hP hD hS hL)
theorem V_getsZ (h : Good l G own nm cc nL rm K) {C n d : String} {v : Value} (hZ : va_Z C n d v K.2.2.2.2.2 K.2.1.1 K.2.1.1.heap) (hq : Cond.fieldLink own idx C n d ∈ lw_all) (hd : decode cc pc = .ok (.getstatic idx, 3)) (k : V K cs (pc + 3) lv (v :: st) ws) : V K cs pc lv st ws := fun H locs ls hP hD hS hL => va_gets h.1 h.2.1 hZ hS h.2.2.2.1 (h.2.2.2.2.1 _ hq) (fun _ h => h) hd (k H locs ls hP hD hS hL)
theorem V_getfS (h : Good l G own nm cc nL rm K) {o n d : String} {q : Nat} {v : Value} (hE : va_OF o n d v q K.2.2.2.2.2 K.2.1.1 K.2.1.1.heap) (hq : Cond.fieldLink own idx o n d ∈ lw_all) (hd : decode cc pc = .ok (.getfield idx, 3)) (k : V K cs (pc + 3) lv (v :: st) ws) : V K cs pc lv (.ref q :: st) ws := fun H locs ls hP hD hS hL => vk_getf h.1 h.2.1 hE hS h.2.2.2.1 (h.2.2.2.2.1 _ hq) (fun _ h => h) hd (k H locs ls hP hD hS hL)
end STRS
section STRS2
variable {l : Launch} {G : GT} {ad : AdT} {own nm : String} {cc : ByteArray} {nL : Nat} {rm : Room} {K : KT} {cs : Nat × Nat} {pc : Nat} {lv lv' : List (Option Value)} {st st' rest : List Value} {ws ws' wc w1 : va_W}
theorem sLen_at : ∀ i : Fin 5, Int32.ofNat (sLen.getD i.val 0) = iZ (sL (i.val : Int)) := by decide +kernel
theorem sLen_n : ∀ i : Fin 5, ((sLen.getD i.val 0 : Nat) : Int) = sL (i.val : Int) := by decide +kernel
theorem sByt_at : ∀ i : Fin 5, ∀ j : Fin 5, (j.val : Int) < sL (i.val : Int) → (sByt.getD i.val []).getD j.val 0 = iZ (sCh (i.val : Int) (j.val : Int)) ∧ 97 ≤ sCh (i.val : Int) (j.val : Int) ∧ sCh (i.val : Int) (j.val : Int) ≤ 122 := by decide +kernel
theorem sL_R (i : Int) : 4 ≤ sL i ∧ sL i ≤ 5 := by unfold sL; split <;> omega
theorem sCh_R {i j : Int} (hi : 0 ≤ i ∧ i < 5) (hj : 0 ≤ j ∧ j < sL i) : 97 ≤ sCh i j ∧ sCh i j ≤ 122 := by
  have hl := sL_R i
  have e := (sByt_at ⟨i.toNat, by omega⟩ ⟨j.toNat, by omega⟩ (by dsimp only; rw [Int.toNat_of_nonneg hi.1, Int.toNat_of_nonneg hj.1]; exact hj.2)).2
  dsimp only at e
  rwa [Int.toNat_of_nonneg hi.1, Int.toNat_of_nonneg hj.1] at e
theorem V_slen (h : Good l G own nm cc nL rm K) (hK : StrK ad K) {i : Int} (hi : 0 ≤ i ∧ i < 5) (hd : decode cc pc = .ok (.arraylength, 1)) (k : V K cs (pc + 1) lv (.int (iZ (sL i)) :: st) ws) : V K cs pc lv (.ref (ad.2.1 i.toNat) :: st) ws := fun H locs ls hP hD hS hL => by
  have e := sLen_at ⟨i.toNat, by omega⟩
  dsimp only at e
  rw [Int.toNat_of_nonneg hi.1] at e
  exact va_tlen h.1 h.2.1 (hK.1.1 i.toNat (by omega)).2.2.2 hS e hd (k H locs ls hP hD hS hL)
theorem V_sbld (h : Good l G own nm cc nL rm K) (hK : StrK ad K) {i j : Int} (hi : 0 ≤ i ∧ i < 5) (hj : 0 ≤ j ∧ j < sL i) (hd : decode cc pc = .ok (.baload, 1)) (k : V K cs (pc + 1) lv (.int (iZ (sCh i j)) :: st) ws) : V K cs pc lv (.int (iZ j) :: .ref (ad.2.1 i.toNat) :: st) ws := fun H locs ls hP hD hS hL => by
  have hl := sL_R i
  have e := (sByt_at ⟨i.toNat, by omega⟩ ⟨j.toNat, by omega⟩ (by dsimp only; rw [Int.toNat_of_nonneg hi.1, Int.toNat_of_nonneg hj.1]; exact hj.2)).1
  have en := sLen_n ⟨i.toNat, by omega⟩
  dsimp only at e en
  rw [Int.toNat_of_nonneg hi.1, Int.toNat_of_nonneg hj.1] at e
  rw [Int.toNat_of_nonneg hi.1] at en
  refine va_tb h.1 h.2.1 (hK.1.1 i.toNat (by omega)).2.2.2 hS (v := .int (iZ (sCh i j))) ?_ ?_ hd (k H locs ls hP hD hS hL)
  · exact vp_in_iff.mpr (by rw [iZ_toInt ⟨by omega, by omega⟩]; omega)
  · rw [clN ⟨hj.1, by omega⟩, e]
theorem V_ishr0 (h : Good l G own nm cc nL rm K) {a : Int} (hd : decode cc pc = .ok (.ishr, 1)) (k : V K cs (pc + 1) lv (.int (iZ a) :: st) ws) : V K cs pc lv (.int (iZ 0) :: .int (iZ a) :: st) ws := fun H locs ls hP hD hS hL => lv_ishr h.1 h.2.1 hd (by rw [iZ_0, sb_shr0]; exact k H locs ls hP hD hS hL)
theorem and255 : ∀ n : Fin 256, iandZ (n.val : Int) 255 = (n.val : Int) := by decide +kernel
theorem iand_255 {a : Int} (h : 0 ≤ a ∧ a < 256) : iandZ a 255 = a := by
  have e := and255 ⟨a.toNat, by omega⟩
  dsimp only at e
  rwa [Int.toNat_of_nonneg h.1] at e
end STRS2
