/-! what is made: objects, arrays, constructors' calls -/
theorem P_app {D : va_G} {cl : List vw_C} {a b : va_W} {H : Heap} (ha : va_P D cl a H) (hb : va_P D cl b H) : va_P D cl (a ++ b) H := by
  intro k q hq
  by_cases h : k < a.length
  · rw [List.getElem?_append_left h] at hq
    exact ha k q hq
  · rw [List.getElem?_append_right (by omega)] at hq
    exact hb _ q hq
theorem P_l {D : va_G} {cl : List vw_C} {a b : va_W} {H : Heap} (h : va_P D cl (a ++ b) H) : va_P D cl a H := fun k q hq => h k q (by rw [List.getElem?_append_left (List.getElem?_eq_some_iff.mp hq).1]; exact hq)
theorem P_r {D : va_G} {cl : List vw_C} {a b : va_W} {H : Heap} (h : va_P D cl (a ++ b) H) : va_P D cl b H := fun k q hq => h (a.length + k) q (by rw [List.getElem?_append_right (by omega), show a.length + k - a.length = k by omega]; exact hq)
theorem D_app {A : Nat → Prop} {a b : va_W} (ha : va_D A a) (hb : va_D A b) (hx : ∀ (i j : Nat) (p q : Nat × va_E), a[i]? = some p → b[j]? = some q → p.1 = q.1 → False) : va_D A (a ++ b) := by
  refine ⟨fun i j p q hi hj hpq => ?_, fun k q hq => ?_⟩
  · by_cases h1 : i < a.length <;> by_cases h2 : j < a.length
    · rw [List.getElem?_append_left h1] at hi
      rw [List.getElem?_append_left h2] at hj
      exact ha.1 i j p q hi hj hpq
    · rw [List.getElem?_append_left h1] at hi
      rw [List.getElem?_append_right (by omega)] at hj
      exact absurd hpq (fun e => hx _ _ p q hi hj e)
    · rw [List.getElem?_append_right (by omega)] at hi
      rw [List.getElem?_append_left h2] at hj
      exact absurd hpq (fun e => hx _ _ q p hj hi e.symm)
    · rw [List.getElem?_append_right (by omega)] at hi hj
      have := hb.1 _ _ p q hi hj hpq
      omega
  · by_cases h : k < a.length
    · rw [List.getElem?_append_left h] at hq
      exact ha.2 k q hq
    · rw [List.getElem?_append_right (by omega)] at hq
      exact hb.2 _ q hq
theorem D_l {A : Nat → Prop} {a b : va_W} (h : va_D A (a ++ b)) : va_D A a := ⟨fun i j p q hi hj hpq => h.1 i j p q (by rw [List.getElem?_append_left (List.getElem?_eq_some_iff.mp hi).1]; exact hi) (by rw [List.getElem?_append_left (List.getElem?_eq_some_iff.mp hj).1]; exact hj) hpq, fun k q hq => h.2 k q (by rw [List.getElem?_append_left (List.getElem?_eq_some_iff.mp hq).1]; exact hq)⟩
theorem at_r {a b : va_W} {k : Nat} {q : Nat × va_E} (h : b[k]? = some q) : (a ++ b)[a.length + k]? = some q := by rw [List.getElem?_append_right (by omega), show a.length + k - a.length = k by omega]; exact h
theorem at_l {a b : va_W} {k : Nat} {q : Nat × va_E} (h : a[k]? = some q) : (a ++ b)[k]? = some q := by rw [List.getElem?_append_left (List.getElem?_eq_some_iff.mp h).1]; exact h
theorem D_r {A : Nat → Prop} {a b : va_W} (h : va_D A (a ++ b)) : va_D A b := ⟨fun i j p q hi hj hpq => by have := h.1 _ _ p q (at_r hi) (at_r hj) hpq; omega, fun k q hq => h.2 _ q (at_r hq)⟩
theorem D_x {A : Nat → Prop} {a b : va_W} (h : va_D A (a ++ b)) (i j : Nat) (p q : Nat × va_E) (hi : a[i]? = some p) (hj : b[j]? = some q) (hpq : p.1 = q.1) : False := by
  have e := h.1 _ _ p q (at_l hi) (at_r hj) hpq
  have := (List.getElem?_eq_some_iff.mp hi).1
  omega
/-- what a call that makes cells leaves behind -/
theorem va_backN {A0 : Nat → Prop} {D : va_G} {cl : List vw_C} {ws wc wa wb ws' : va_W} {H H1 : Heap} {isC : List Nat} (hP : va_P D cl ws H) (hD : va_D A0 ws) (hpk : Pk isC ws wc) (hn : va_nd isC = true)
    (hk : ∀ q : Nat, q < H.size → ¬ va_A wc H.size q → H1[q]? = H[q]?) (hF : ∀ q, va_A wc H.size q → A0 q) (hP1 : va_P D cl (wa ++ wb) H1) (hD1 : va_D (va_A wc H.size) (wa ++ wb)) (hs : Sm ws isC wa ws') : va_P D cl (ws' ++ wb) H1 ∧ va_D A0 (ws' ++ wb) := by
  obtain ⟨hP2, hD2⟩ := va_back hP hD hpk hn hk hF (P_l hP1) (D_l hD1) hs
  obtain ⟨s1, s2⟩ := Sm_sp isC ws wa ws' hs hn (Pk_lt hpk)
  have hDb := D_r hD1
  refine ⟨P_app hP2 (P_r hP1), D_app hD2 ⟨hDb.1, fun k q hq => hF _ (hDb.2 k q hq)⟩ (fun i j p q hi hj hpq => ?_)⟩
  by_cases hm : i ∈ isC
  · obtain ⟨a, ha⟩ := List.getElem?_of_mem hm
    exact D_x hD1 a j p q (by rw [← s1 a i ha]; exact hi) hj hpq
  · rw [s2 i hm] at hi
    have hlt := (hP i p hi).lt
    have hq := hDb.2 j q hj
    rw [← hpq] at hq
    rcases hq with ⟨k2, e, h⟩ | h
    · obtain ⟨b, h3, h4⟩ := Pk_sp hpk k2 (p.1, e) h
      have hij := hD.1 i b p (p.1, e) hi h4 rfl
      subst hij
      exact hm (List.mem_of_getElem? h3)
    · omega
def NWk (own : String) (idx ci : Nat) (C : String) (T : u_T) (N : Nat) (fs : List Value) : Prop := (∀ w ∈ u_ws C T N, w ∈ lw_all) ∧ (∃ ty : Nat → FieldType, (∀ k, k < N → parseFieldDescriptor (T k).2.2.1 = some (ty k)) ∧ ∀ j, j < N → defaultValue (ty j) = vp_V fs j) ∧ Cond.classLink own idx C ∈ lw_all ∧ Cond.instantiable C N ∈ lw_all ∧ Cond.initialized C ∈ lw_all ∧ vwCl[ci]? = some (C, T, N)
/-- a constructor's end: the cells that it was given, and what it made -/
def Mk (w : (Nat → Nat) → va_W) : Option Value → va_W → Prop := fun v' w' => ∃ q : Nat → Nat, v' = none ∧ w' = w q
section MAKE
variable {l : Launch} {G : GT} {own nm : String} {cc : ByteArray} {nL : Nat} {rm : Room} {K : KT} {cs : Nat × Nat} {pc : Nat} {lv lv' : List (Option Value)} {st st' rest : List Value} {ws ws' wc wa wb : va_W} {PO : Option Value → va_W → Prop} {mc ms : Nat}
variable {y : MethodName} {cy : ByteArray} {nLy n idx : Nat} {rt : Option FieldType} {rmy : Room} {as : List Value} {isC : List Nat}
theorem V_rot {a b : va_W} (k : V K cs pc lv st (b ++ a)) : V K cs pc lv st (a ++ b) := fun H locs ls hP hD hS hL =>
  k H locs ls (P_app (P_r hP) (P_l hP)) (D_app (D_r hD) (D_l hD) (fun i j p q hi hj e => D_x hD j i q p hj hi e.symm)) hS hL
theorem V_rot1 {x : Nat × va_E} {b : va_W} (k : V K cs pc lv st (b ++ [x])) : V K cs pc lv st (x :: b) := V_rot (a := [x]) k
theorem V_permT {is : List Nat} {pre pre' t : va_W} (hpk : Pk is pre pre') (hnd : va_nd is = true) (k : V K cs pc lv st (pre' ++ t)) : V K cs pc lv st (pre ++ t) := fun H locs ls hP hD hS hL =>
  k H locs ls (P_app (Pk_P hpk (P_l hP)) (P_r hP)) (D_app ((D_l hD).sub is hnd hpk) (D_r hD) (fun i j p q hi hj e => by
    obtain ⟨a, -, h2⟩ := Pk_sp hpk i p hi
    exact D_x hD a j p q h2 hj e)) hS hL
theorem V_new (h : Good l G own nm cc nL rm K) {C : String} {T : u_T} {N ci : Nat} {fs : List Value} (hf : NWk own idx ci C T N fs) (hcs : cs.1 + 1 ≤ rm.cells ∧ cs.2 + N ≤ rm.slots) (hd : decode cc pc = .ok (.new idx, 3))
    (k : ∀ q : Nat, V K (cs.1 + 1, cs.2 + N) (pc + 3) lv (.ref q :: st) ((q, .inr (ci, fs)) :: ws)) : V K cs pc lv st ws := by
  intro H locs ls hP hD hS hL
  obtain ⟨f1, ⟨ty, f2, f3⟩, f4, f5, f6, f7⟩ := hf
  have hR := h.2.2.2.2.2.2.2.2.2.2
  refine va_new h.1 h.2.1 h.2.2.2.2.1 f1 ty f2 h.2.2.2.1 (h.2.2.2.2.1 _ f4) (h.2.2.2.2.1 _ f5) (h.2.2.2.2.1 _ f6) h.2.2.2.2.2.1.1 hP hD hS h.2.2.2.2.2.2.1 f7 f3 (by rw [hR]; exact hcs.1) (by rw [hR]; exact hcs.2) hd (fun q H1 hP hD hS => ?_)
  exact V_rot (a := ws) (b := [(q, .inr (ci, fs))]) (k q) H1 locs ls hP hD hS hL
theorem V_newa (h : Good l G own nm cc nL rm K) {atype : ArrayType} {ty : FieldType} {z : Int} {N : Nat} {a0 : vp_A} (t : Nat) (ht : (tysOf G)[t]? = some (G.2 t, ty)) (hty : newarray.typeOf atype = ty) (hw : Cond.arrayClass (newarray.typeOf atype) ∈ lw_all) (hra : ∀ (U : State) (c d : ClassId), va_RA U c ty → va_RA U d ty → c = d)
    (ha : ∀ cA : ClassId, vp_cell cA a0 = arrV cA N (fun _ => defaultValue ty)) (hz : 0 ≤ z ∧ z < 2147483648) (hN : z.toNat = N) (hby : N * componentBytes ty ≤ 536870912) (hcs : cs.1 + 1 ≤ rm.cells ∧ cs.2 + N ≤ rm.slots) (hd : decode cc pc = .ok (.newarray atype, 2))
    (k : ∀ q : Nat, V K (cs.1 + 1, cs.2 + N) (pc + 2) lv (.ref q :: st) ((q, .inl (G.2 t, a0)) :: ws)) : V K cs pc lv (.int (iZ z) :: st) ws := by
  intro H locs ls hP hD hS hL
  have hR := h.2.2.2.2.2.2.2.2.2.2
  have hG := h.2.2.2.2.2.2.2.2.2.1
  subst hG
  refine va_newa h.1 h.2.1 (h.2.2.2.2.1 _ hw) hty h.2.2.2.2.2.1.1 hP hD hS h.2.2.2.2.2.2.1 ha (nlt0 hz) ((clN hz).trans hN) hby (by rw [hR]; exact hcs.1) (by rw [hR]; exact hcs.2) hd (fun q cA H1 hK hP hD hS => ?_)
  have e1 := (hK.2 (tysOf K.2.2.2.2.1).length (cA, ty) (by simp)).2
  have e2 := (h.2.2.2.2.2.1.1.2 t _ ht).2
  have e3 := hra _ _ _ e1 e2
  subst e3
  exact V_rot (a := ws) (b := [(q, .inl (K.2.2.2.2.1.2 t, a0))]) (k q) H1 locs ls hP hD hS hL
theorem V_newq (h : Good l G own nm cc nL rm K) {C : String} {z : Int} {N : Nat} (t : Nat) (ht : (tysOf G)[t]? = some (G.2 t, .object C)) (hcl : Cond.classLink own idx C ∈ lw_all) (hao : ∀ U : State, KK G U → va_AO C U) (hz : 0 ≤ z ∧ z < 2147483648) (hN : z.toNat = N) (hby : N * 4 ≤ 536870912) (hcs : cs.1 + 1 ≤ rm.cells ∧ cs.2 + N ≤ rm.slots) (hd : decode cc pc = .ok (.anewarray idx, 3))
    (k : ∀ q : Nat, V K (cs.1 + 1, cs.2 + N) (pc + 3) lv (.ref q :: st) ((q, .inl (G.2 t, N, .inr (.inr (.inr (.inr (fun _ => none)))))) :: ws)) : V K cs pc lv (.int (iZ z) :: st) ws := by
  intro H locs ls hP hD hS hL
  have hR := h.2.2.2.2.2.2.2.2.2.2
  have hG := h.2.2.2.2.2.2.2.2.2.1
  subst hG
  refine va_newq h.1 h.2.1 h.2.2.2.1 (h.2.2.2.2.1 _ hcl) (hao _ h.2.2.2.2.2.1) h.2.2.2.2.2.1.1 hP hD hS h.2.2.2.2.2.2.1 (nlt0 hz) ((clN hz).trans hN) hby (by rw [hR]; exact hcs.1) (by rw [hR]; exact hcs.2) hd (fun q cA H1 hK hP hD hS => ?_)
  have e1 := (hK.2 (tysOf K.2.2.2.2.1).length (cA, .object C) (by simp)).2
  have e2 := (h.2.2.2.2.2.1.1.2 t _ ht).2
  obtain ⟨_, _, _, _, _, h1⟩ := e1
  obtain ⟨_, _, _, _, _, h2⟩ := e2
  have e3 : cA = K.2.2.2.2.1.2 t := Option.some.inj (h1.symm.trans h2)
  subst e3
  exact V_rot (a := ws) (b := [(q, .inl (K.2.2.2.2.1.2 t, N, .inr (.inr (.inr (.inr (fun _ => none))))))]) (k q) H1 locs ls hP hD hS hL
theorem V_callI (h : Good l G own nm cc nL rm K) {b : Nat} (hst : st = (.ref b :: as).reverse ++ rest) (hci : CIi own idx y cy nLy n ∨ CIn own idx y cy nLy n) (hpk : Pk isC ws wc) (hnd : va_nd isC = true) (hM : Ctr l G y cy nLy none rmy (.ref b :: as) wc PO) (hn : as.length = n) (hlv : lv.length = nL) (hroom : (rest.map fun v => v.category).sum ≤ 8)
    (hrm : rmy.frames + 1 ≤ rm.frames ∧ 8 + (nLy + 11) + rmy.locals ≤ rm.locals) (hcs : cs.1 + rmy.cells ≤ rm.cells ∧ cs.2 + rmy.slots ≤ rm.slots) (hd : decode cc pc = .ok (.invokespecial idx, 3))
    (k : ∀ v w1, PO v w1 → ∃ wa wb ws', v = none ∧ w1 = wa ++ wb ∧ Sm ws isC wa ws' ∧ V K (cs.1 + rmy.cells, cs.2 + rmy.slots) (pc + 3) lv rest (ws' ++ wb)) : V K cs pc lv st ws := by
  intro H locs ls hP hD hS hL
  have hF := Pk_free hpk hD hS h.2.2.2.2.2.2.1
  obtain ⟨hx, hb, hml, hown, hts, hKK, hA, hnm, hl, hG, hR⟩ := h
  subst hl; subst hG; subst hR
  have hpre : PreS K.2.1.1 H (va_Pc (.ref b :: as) (fun U => U.heap.size = H.size ∧ va_P K.2.2.2.2.1.1 vwCl wc U.heap ∧ KK K.2.2.2.2.1 U ∧ va_D (fun _ => True) wc)) (.ref b :: as) := by
    refine ⟨pre_blind, fun U hU hW => ⟨rfl, by rw [hU], by rw [hU]; exact Pk_P hpk hP, hKK.moved hW, ?_⟩⟩
    refine ⟨fun i j p q hi hj hpq => ?_, fun _ _ _ => trivial⟩
    obtain ⟨a, a1, a2⟩ := Pk_sp hpk i p hi
    obtain ⟨b, b1, b2⟩ := Pk_sp hpk j q hj
    have hab := hD.1 a b p q a2 b2 hpq
    subst hab
    exact va_nd_inj isC hnd i j a a1 b1
  have hgo : va_Run K.1.1 K.1.2.1 K.1.2.2.1 K.1.2.2.2 K.2.1.1 K.2.1.2.1 K.2.1.2.2.1 K.2.1.2.2.2 K.2.2.1.1 K.2.2.1.2 H locs cs.1 cs.2 rmy.cells rmy.slots (F0 K.2.1.2.1 pc ls st) rest (Qof K.2.2.2.2.1 PO (va_A wc H.size) (.ref b :: as).toArray) (va_A wc H.size) := by
    rcases hci with hci | hci
    · obtain ⟨c1, c2, c3, c4, c5, c6⟩ := hci
      exact va_runI (As := as) (rest := rest) ⟨hx, hb, hml, hown, hts⟩ (hM H.size) (cwI n hts c1 rfl rfl rfl (hts _ c2) (hts _ c3) (hts _ c4) c5 c6 hrm) hpre rfl hn (hL.1.trans hlv) (hst.trans (by rw [List.reverse_cons, List.append_assoc]; rfl)) (lv_room hroom) hd hcs
    · obtain ⟨c1, c2, ⟨host, c3⟩, c4, c5, c6⟩ := hci
      exact va_runIN (As := as) (rest := rest) ⟨hx, hb, hml, hown, hts⟩ (hM H.size) ⟨va_cnB n hts c1 rfl rfl rfl (hKK.2.1 _ c3) (hts _ c2) c6 hrm, c5, hts _ c4⟩ hpre rfl hn (hL.1.trans hlv) (hst.trans (by rw [List.reverse_cons, List.append_assoc]; rfl)) (lv_room hroom) hd hcs
  refine va_callX hgo hS hF (fun v w H1 locs1 hp hP1 hD1 hz hk hS1 => ?_)
  obtain ⟨wa, wb, ws', rfl, rfl, hs, k⟩ := k v w hp
  obtain ⟨hP2, hD2⟩ := va_backN hP hD hpk hnd hk hF hP1 hD1 hs
  exact k H1 locs1 ls hP2 hD2 hS1 hL
/-- a call that makes nothing, whatever was made before -/
theorem V_callVc (h : Good l G own nm cc nL rm K) {w1 : va_W} {v : Option Value} {b ci : Nat} {fs : List Value} {T : u_T} {N : Nat} (hst : st = (.ref b :: as).reverse ++ rest) (hci : CIv own idx y cy nLy rt n) (hpk : Pk isC ws wc) (hnd : va_nd isC = true) (q0 : Nat) (he : ws[q0]? = some (b, .inr (ci, fs))) (hM : Ctr l G y cy nLy rt rmy (.ref b :: as) wc (Det v w1)) (hc : vwCl[ci]? = some (y.cls, T, N)) (hn : as.length = n) (hlv : lv.length = nL)
    (hrm : rmy.frames + 1 ≤ rm.frames ∧ 8 + (nLy + 11) + rmy.locals ≤ rm.locals) (hroom : (rest.map fun v => v.category).sum ≤ 8) (hz : rmy.cells = 0 ∧ rmy.slots = 0) (hcs : cs.1 ≤ rm.cells ∧ cs.2 ≤ rm.slots) (hd : decode cc pc = .ok (.invokevirtual idx, 3)) (hsk : stk v rest = st') (hsm : Sm ws isC w1 ws')
    (k : V K cs (pc + 3) lv st' ws') : V K cs pc lv st ws := by
  obtain ⟨z1, z2⟩ := hz
  refine V_callVg h hst hci hpk hnd q0 he hc hM hn hlv hroom hrm (by rw [z1, z2]; exact hcs) hd ?_
  rintro _ _ ⟨rfl, rfl⟩
  exact ⟨ws', hsm, by rw [z1, z2, hsk]; exact k⟩
/-- the rays, as they are made -/
def rayP (ra : Int → Nat) (i : Nat) : Nat → Option Nat := fun j => if j < i then some (ra (j : Int)) else none
def raysN (ra : Int → Nat) (i : Nat) : va_W := (List.range i).map (rayC ra (fun _ => 0) (fun _ => 0) (fun _ => 0) (fun _ => 0) (fun _ => 0))
theorem rayP_0 {ra : Int → Nat} : (fun _ => none) = rayP ra 0 := by
  funext j
  unfold rayP
  rw [if_neg (by omega)]
theorem rayP_s {ra : Int → Nat} {i q : Nat} : va_up (rayP ra i) i (some q) = rayP (fun j => if j = (i : Int) then q else ra j) (i + 1) := by
  funext j
  unfold va_up rayP
  dsimp only
  by_cases h : j = i
  · rw [if_pos h, if_pos (by omega), if_pos (by omega)]
  · rw [if_neg h]
    by_cases h2 : j < i
    · rw [if_pos h2, if_pos (by omega), if_neg (by omega)]
    · rw [if_neg h2, if_neg (by omega)]
theorem rayP_100 {ra ra' : Int → Nat} (h : ∀ i : Nat, i < 100 → ra (i : Int) = ra' (i : Int)) : rayP ra 100 = rayA ra' := by
  funext j
  unfold rayP rayA
  split
  · rename_i q
    rw [h j q]
  · rfl
theorem raysN_0 {ra : Int → Nat} : raysN ra 0 = [] := rfl
theorem raysN_s {ra : Int → Nat} {i q : Nat} : raysN ra i ++ [(q, .inr (6, [.int (iZ (i : Int)), .int (iZ 0), .int (iZ 0), .int (iZ 0), .long (lZ 0), .int (iZ 0)]))] = raysN (fun j => if j = (i : Int) then q else ra j) (i + 1) := by
  unfold raysN
  rw [List.range_succ, List.map_append]
  congr 1
  · apply List.map_congr_left
    intro k hk
    have := List.mem_range.mp hk
    unfold rayC
    dsimp only
    rw [if_neg (by omega)]
  · show _ = [rayC _ _ _ _ _ _ i]
    unfold rayC
    dsimp only
    rw [if_pos rfl]
theorem raysN_100 {ra ra' : Int → Nat} (h : ∀ i : Nat, i < 100 → ra (i : Int) = ra' (i : Int)) : raysN ra 100 = raysW ra' (fun _ => 0) (fun _ => 0) (fun _ => 0) (fun _ => 0) (fun _ => 0) := by
  unfold raysN raysW
  apply List.map_congr_left
  intro k hk
  have := List.mem_range.mp hk
  unfold rayC
  rw [h k this]
theorem arr5_mk {a b c d e : Nat} : va_up (va_up (va_up (va_up (va_up (fun _ => none) 0 (some a)) 1 (some b)) 2 (some c)) 3 (some d)) 4 (some e) = arr5 (fun i => ([a, b, c, d, e] : List Nat).getD i 0) := by
  funext j
  match j with
  | 0 => rfl
  | 1 => rfl
  | 2 => rfl
  | 3 => rfl
  | 4 => rfl
  | n + 5 =>
    simp only [va_up, arr5]
    rw [if_neg (by omega), if_neg (by omega), if_neg (by omega), if_neg (by omega), if_neg (by omega), if_neg (by omega)]
end MAKE
theorem ra_int (U : State) (c d : ClassId) (h1 : va_RA U c .int) (h2 : va_RA U d .int) : c = d := Option.some.inj (h1.symm.trans h2)
theorem ra_long (U : State) (c d : ClassId) (h1 : va_RA U c .long) (h2 : va_RA U d .long) : c = d := Option.some.inj (h1.symm.trans h2)
theorem ra_boolean (U : State) (c d : ClassId) (h1 : va_RA U c .boolean) (h2 : va_RA U d .boolean) : c = d := Option.some.inj (h1.symm.trans h2)
theorem ra_char (U : State) (c d : ClassId) (h1 : va_RA U c .char) (h2 : va_RA U d .char) : c = d := Option.some.inj (h1.symm.trans h2)
abbrev z0 : Int → Int := fun _ => 0
theorem ar_int {N : Nat} (cA : ClassId) : vp_cell cA (N, .inl (iF z0)) = arrV cA N (fun _ => defaultValue .int) := rfl
theorem ar_boolean {N : Nat} (cA : ClassId) : vp_cell cA (N, .inl (iF z0)) = arrV cA N (fun _ => defaultValue .boolean) := rfl
theorem ar_char {N : Nat} (cA : ClassId) : vp_cell cA (N, .inl (iF z0)) = arrV cA N (fun _ => defaultValue .char) := rfl
theorem ar_long {N : Nat} (cA : ClassId) : vp_cell cA (N, .inr (.inl (lF z0))) = arrV cA N (fun _ => defaultValue .long) := rfl
theorem hd_g {x : Nat × va_E} {ws : va_W} : (x :: ws)[0]? = some x := rfl
theorem nw_X2_9 : NWk RX2 9 9 RX10 TX10 3 [.null, .int (iZ 0), .int (iZ 0)] := ⟨inX10, ⟨tyX10, tyX10_ok, fun j hj => by
  match j, hj with
  | 0, _ => rfl
  | 1, _ => rfl
  | 2, _ => rfl⟩, q1_68, q1_25, q1_2, rfl⟩
theorem nw_X8_17 : NWk RX8 17 2 RX3 TX3 5 [.null, .null, .int (iZ 0), .int (iZ 0), .long (lZ 0)] := ⟨inX3, ⟨tyX3, tyX3_ok, fun j hj => by
  match j, hj with
  | 0, _ => rfl
  | 1, _ => rfl
  | 2, _ => rfl
  | 3, _ => rfl
  | 4, _ => rfl⟩, q1_113, q1_114, q1_7, rfl⟩
theorem nw_X8_24 : NWk RX8 24 5 RX6 TX6 2 [.null, .int (iZ 0)] := ⟨inX6, ⟨tyX6, tyX6_ok, fun j hj => by
  match j, hj with
  | 0, _ => rfl
  | 1, _ => rfl⟩, q1_137, q1_138, q1_8, rfl⟩
theorem nw_X8_31 : NWk RX8 31 0 RX1 TX1 1 [.null] := ⟨inX1, ⟨tyX1, tyX1_ok, fun j hj => by
  match j, hj with
  | 0, _ => rfl⟩, q1_151, q1_152, q1_9, rfl⟩
theorem nw_X8_38 : NWk RX8 38 4 RX5 TX5 2 [.null, .int (iZ 0)] := ⟨inX5, ⟨tyX5, tyX5_ok, fun j hj => by
  match j, hj with
  | 0, _ => rfl
  | 1, _ => rfl⟩, q1_166, q1_167, q1_10, rfl⟩
theorem nw_X8_9 : NWk RX8 9 6 RX7 TX7 6 [.int (iZ 0), .int (iZ 0), .int (iZ 0), .int (iZ 0), .long (lZ 0), .int (iZ 0)] := ⟨inX7, ⟨tyX7, tyX7_ok, fun j hj => by
  match j, hj with
  | 0, _ => rfl
  | 1, _ => rfl
  | 2, _ => rfl
  | 3, _ => rfl
  | 4, _ => rfl
  | 5, _ => rfl⟩, q1_111, q1_179, q1_11, rfl⟩
theorem nw_X9_15 : NWk RX9 15 3 RX4 TX4 2 [.null, .int (iZ 0)] := ⟨inX4, ⟨tyX4, tyX4_ok, fun j hj => by
  match j, hj with
  | 0, _ => rfl
  | 1, _ => rfl⟩, q1_85, q1_31, q1_3, rfl⟩
theorem nw_X10_7 : NWk RX10 7 3 RX4 TX4 2 [.null, .int (iZ 0)] := ⟨inX4, ⟨tyX4, tyX4_ok, fun j hj => by
  match j, hj with
  | 0, _ => rfl
  | 1, _ => rfl⟩, q1_30, q1_31, q1_3, rfl⟩
theorem nw_X11_7 : NWk RX11 7 9 RX10 TX10 3 [.null, .int (iZ 0), .int (iZ 0)] := ⟨inX10, ⟨tyX10, tyX10_ok, fun j hj => by
  match j, hj with
  | 0, _ => rfl
  | 1, _ => rfl
  | 2, _ => rfl⟩, q1_24, q1_25, q1_2, rfl⟩
theorem nw_X11_16 : NWk RX11 16 1 RX2 TX2 2 [.null, .int (iZ 0)] := ⟨inX2, ⟨tyX2, tyX2_ok, fun j hj => by
  match j, hj with
  | 0, _ => rfl
  | 1, _ => rfl⟩, q1_62, q1_63, q1_4, rfl⟩
theorem nw_X11_23 : NWk RX11 23 8 RX9 TX9 6 [.null, .null, .int (iZ 0), .int (iZ 0), .int (iZ 0), .int (iZ 0)] := ⟨inX9, ⟨tyX9, tyX9_ok, fun j hj => by
  match j, hj with
  | 0, _ => rfl
  | 1, _ => rfl
  | 2, _ => rfl
  | 3, _ => rfl
  | 4, _ => rfl
  | 5, _ => rfl⟩, q1_79, q1_80, q1_5, rfl⟩
theorem nw_X11_30 : NWk RX11 30 7 RX8 TX8 6 [.null, .null, .null, .null, .null, .int (iZ 0)] := ⟨inX8, ⟨tyX8, tyX8_ok, fun j hj => by
  match j, hj with
  | 0, _ => rfl
  | 1, _ => rfl
  | 2, _ => rfl
  | 3, _ => rfl
  | 4, _ => rfl
  | 5, _ => rfl⟩, q1_105, q1_106, q1_6, rfl⟩
theorem nw_L_10 : NWk RL 10 10 RX11 TX11 4 [.null, .null, .null, .null] := ⟨inX11, ⟨tyX11, tyX11_ok, fun j hj => by
  match j, hj with
  | 0, _ => rfl
  | 1, _ => rfl
  | 2, _ => rfl
  | 3, _ => rfl⟩, q1_16, q1_17, q1_1, rfl⟩
