/-! fields, arrays, calls and ends over V -/
def iF (f : Int → Int) : Nat → Int32 := fun j => iZ (f (j : Int))
def lF (f : Int → Int) : Nat → Int64 := fun j => lZ (f (j : Int))
def zup (f : Int → Int) (i x : Int) : Int → Int := fun j => if j = i then x else f j
theorem zup_s {f : Int → Int} {i x : Int} : zup f i x i = x := if_pos rfl
theorem zup_n {f : Int → Int} {i x j : Int} (h : j ≠ i) : zup f i x j = f j := if_neg h
abbrev In31 (i : Int) (n : Nat) : Prop := 0 ≤ i ∧ i < (n : Int) ∧ (n : Int) ≤ 2147483647
theorem In31.R {i : Int} {n : Nat} (h : In31 i n) : R32 i := ⟨by have := h.1; omega, by have := h.2.1; have := h.2.2; omega⟩
theorem In31.vp {i : Int} {n : Nat} (h : In31 i n) : vp_in (iZ i) n := vp_in_iff.mpr (by rw [iZ_toInt h.R]; exact ⟨h.1, h.2.1⟩)
theorem In31.cl {i : Int} {n : Nat} (h : In31 i n) : (((iZ i).toNatClampNeg : Nat) : Int) = i := by
  unfold Int32.toNatClampNeg
  rw [iZ_toInt h.R]
  exact Int.toNat_of_nonneg h.1
theorem iF_at {f : Int → Int} {i : Int} {n : Nat} (h : In31 i n) : iF f (iZ i).toNatClampNeg = iZ (f i) := by unfold iF; rw [h.cl]
theorem lF_at {f : Int → Int} {i : Int} {n : Nat} (h : In31 i n) : lF f (iZ i).toNatClampNeg = lZ (f i) := by unfold lF; rw [h.cl]
theorem iF_up {f : Int → Int} {i x : Int} {n : Nat} (h : In31 i n) : upd (iF f) (iZ i).toNatClampNeg (iZ x) = iF (zup f i x) := by
  funext j
  have hc := h.cl
  unfold upd iF zup
  by_cases hj : j = (iZ i).toNatClampNeg
  · have hj2 : (j : Int) = i := by rw [hj]; exact hc
    rw [if_pos hj, if_pos hj2]
  · have hj2 : ¬ (j : Int) = i := fun q => hj (by omega)
    rw [if_neg hj, if_neg hj2]
theorem lF_up {f : Int → Int} {i x : Int} {n : Nat} (h : In31 i n) : vp_updL (lF f) (iZ i).toNatClampNeg (lZ x) = lF (zup f i x) := by
  funext j
  have hc := h.cl
  unfold vp_updL lF zup
  by_cases hj : j = (iZ i).toNatClampNeg
  · have hj2 : (j : Int) = i := by rw [hj]; exact hc
    rw [if_pos hj, if_pos hj2]
  · have hj2 : ¬ (j : Int) = i := fun q => hj (by omega)
    rw [if_neg hj, if_neg hj2]
abbrev Z01 (x : Int) : Prop := x = 0 ∨ x = 1
theorem Z01.n {x : Int} (h : Z01 x) : narrow .boolean (.int (iZ x)) = .int (iZ x) := by rcases h with rfl | rfl <;> decide +kernel
theorem Z01.f {x : Int} (h : Z01 x) : fits .boolean (.int (iZ x)) = true := by rcases h with rfl | rfl <;> decide +kernel
theorem Z01.v {x : Int} (h : Z01 x) : vp_nar .boolean (iZ x) = iZ x := by rcases h with rfl | rfl <;> decide +kernel
theorem Z01.R {x : Int} (h : Z01 x) : R32 x := by rcases h with rfl | rfl <;> decide
theorem bZ_Z {P : Prop} [Decidable P] : Z01 (bZ P) := bZ_01
section ROWS2
variable {l : Launch} {G : GT} {own nm : String} {cc : ByteArray} {nL : Nat} {rm : Room} {K : KT} {cs : Nat × Nat} {pc : Nat} {lv lv' : List (Option Value)} {st st' : List Value} {ws ws' : va_W} {PO : Option Value → va_W → Prop} {mc ms : Nat}
theorem V_get (h : Good l G own nm cc nL rm K) {C : String} {T : u_T} {N ci idx k a : Nat} {fs : List Value} {v : Value} (hf : FLk own idx ci k C T N) (q : Nat) (he : ws[q]? = some (a, .inr (ci, fs))) (hv : fs[k]? = some v) (hd : decode cc pc = .ok (.getfield idx, 3)) (kk : V K cs (pc + 3) lv (v :: st) ws) : V K cs pc lv (.ref a :: st) ws := by
  intro H locs ls hP hD hS hL
  obtain ⟨h1, h2, h3, h4⟩ := hf
  rcases h4 with h4 | ⟨host, h4⟩
  · exact va_get h.1 h.2.1 h.2.2.2.2.1 h1 h.2.2.2.1 h.2.2.2.2.2.1.1 hP q he h2 k h3 (h.2.2.2.2.1 _ h4) (fun x hx => hx) hv hd (kk H locs ls hP hD hS hL)
  · exact va_getN h.1 h.2.1 h.2.2.2.2.1 h1 h.2.2.2.1 h.2.2.2.2.2.1.1 hP q he h2 k h3 (va_Nw.use rfl (h.2.2.2.2.2.1.2.1 _ h4)) (fun x hx => hx) hv hd (kk H locs ls hP hD hS hL)
theorem V_put (h : Good l G own nm cc nL rm K) {C : String} {T : u_T} {N ci idx k a : Nat} {fs fs' : List Value} {v : Value} {ty : FieldType} (hf : PFk own idx ci k C T N ty false) (q : Nat) (he : ws[q]? = some (a, .inr (ci, fs))) (hl : k < fs.length) (hfs : fs.set k v = fs') (hws : ws.set q (a, .inr (ci, fs')) = ws') (hn : narrow ty v = v) (hfit : fits ty v = true) (hd : decode cc pc = .ok (.putfield idx, 3)) (kk : V K cs (pc + 3) lv st ws') : V K cs pc lv (v :: .ref a :: st) ws := by
  intro H locs ls hP hD hS hL
  obtain ⟨⟨h1, h2, h3, h4⟩, ⟨ty0, h5⟩, h6, h7, h8, -⟩ := hf
  subst hfs
  subst hws
  rcases h4 with h4 | ⟨host, h4⟩
  · exact va_put h.1 h.2.1 h.2.2.2.2.1 h1 ty0 h5 h6 h.2.2.2.1 h.2.2.2.2.2.1.1 hP hD hS q he h2 k h3 (h.2.2.2.2.1 _ h4) (fun x hx => hx) h7 h8 hn hfit hl hd (fun H locs hP hD hS => kk H locs ls hP hD hS hL)
  · exact va_putN h.1 h.2.1 h.2.2.2.2.1 h1 ty0 h5 h6 h.2.2.2.1 h.2.2.2.2.2.1.1 hP hD hS q he h2 k h3 (va_Nw.use rfl (h.2.2.2.2.2.1.2.1 _ h4)) (fun x hx => hx) h7 h8 hn hfit hl hd (fun H locs hP hD hS => kk H locs ls hP hD hS hL)
theorem V_putF (h : Good l G own "<init>" cc nL rm K) {C : String} {T : u_T} {N ci idx k a : Nat} {fs fs' : List Value} {v : Value} {ty : FieldType} (hf : PFk own idx ci k C T N ty true) (q : Nat) (he : ws[q]? = some (a, .inr (ci, fs))) (hl : k < fs.length) (hfs : fs.set k v = fs') (hws : ws.set q (a, .inr (ci, fs')) = ws') (hn : narrow ty v = v) (hfit : fits ty v = true) (hd : decode cc pc = .ok (.putfield idx, 3)) (hlk : Cond.fieldLink own idx (T k).1 (T k).2.1 (T k).2.2.1 ∈ lw_all) (kk : V K cs (pc + 3) lv st ws') : V K cs pc lv (v :: .ref a :: st) ws := by
  intro H locs ls hP hD hS hL
  obtain ⟨⟨h1, h2, h3, -⟩, ⟨ty0, h5⟩, h6, h7, h8, h9⟩ := hf
  subst hfs
  subst hws
  exact va_putF h.1 h.2.1 h.2.2.2.2.1 h1 ty0 h5 h6 h.2.2.2.1 h.2.2.2.2.2.1.1 hP hD hS q he h2 k h3 (h.2.2.2.2.1 _ hlk) (fun x hx => hx) h7 h.2.2.2.2.2.2.2.1 (h9 rfl) h8 hn hfit hl hd (fun H locs hP hD hS => kk H locs ls hP hD hS hL)
theorem V_iald (h : Good l G own nm cc nL rm K) {a n : Nat} {f : Int → Int} {i : Int} (q : Nat) (he : ws[q]? = some (a, .inl (G.2 0, n, .inl (iF f)))) (hr : In31 i n) (hd : decode cc pc = .ok (.iaload, 1)) (kk : V K cs (pc + 1) lv (.int (iZ (f i)) :: st) ws) : V K cs pc lv (.int (iZ i) :: .ref a :: st) ws := by
  intro H locs ls hP hD hS hL
  have hG := h.2.2.2.2.2.2.2.2.2.1
  subst hG
  exact va_iald h.1 h.2.1 h.2.2.2.2.2.1.1 hP q 0 he rfl hr.vp hd (by rw [iF_at hr]; exact kk H locs ls hP hD hS hL)
theorem V_cald (h : Good l G own nm cc nL rm K) {a n : Nat} {f : Int → Int} {i : Int} (q : Nat) (he : ws[q]? = some (a, .inl (G.2 3, n, .inl (iF f)))) (hr : In31 i n) (hd : decode cc pc = .ok (.caload, 1)) (kk : V K cs (pc + 1) lv (.int (iZ (f i)) :: st) ws) : V K cs pc lv (.int (iZ i) :: .ref a :: st) ws := by
  intro H locs ls hP hD hS hL
  have hG := h.2.2.2.2.2.2.2.2.2.1
  subst hG
  exact va_cald h.1 h.2.1 h.2.2.2.2.2.1.1 hP q 3 he rfl hr.vp hd (by rw [iF_at hr]; exact kk H locs ls hP hD hS hL)
theorem V_lald (h : Good l G own nm cc nL rm K) {a n : Nat} {f : Int → Int} {i : Int} (q : Nat) (he : ws[q]? = some (a, .inl (G.2 1, n, .inr (.inl (lF f))))) (hr : In31 i n) (hd : decode cc pc = .ok (.laload, 1)) (kk : V K cs (pc + 1) lv (.long (lZ (f i)) :: st) ws) : V K cs pc lv (.int (iZ i) :: .ref a :: st) ws := by
  intro H locs ls hP hD hS hL
  have hG := h.2.2.2.2.2.2.2.2.2.1
  subst hG
  exact va_lald h.1 h.2.1 h.2.2.2.2.2.1.1 hP q 1 he rfl hr.vp hd (by rw [lF_at hr]; exact kk H locs ls hP hD hS hL)
theorem V_iast (h : Good l G own nm cc nL rm K) {a n : Nat} {f : Int → Int} {i x : Int} (q : Nat) (he : ws[q]? = some (a, .inl (G.2 0, n, .inl (iF f)))) (hr : In31 i n) (hws : ws.set q (a, .inl (G.2 0, n, .inl (iF (zup f i x)))) = ws') (hd : decode cc pc = .ok (.iastore, 1)) (kk : V K cs (pc + 1) lv st ws') : V K cs pc lv (.int (iZ x) :: .int (iZ i) :: .ref a :: st) ws := by
  intro H locs ls hP hD hS hL
  have hG := h.2.2.2.2.2.2.2.2.2.1
  subst hG
  subst hws
  exact va_iast h.1 h.2.1 h.2.2.2.2.2.1.1 hP hD hS q 0 he rfl hr.vp hd (fun H locs hP hD hS => kk H locs ls (by rw [iF_up hr] at hP; exact hP) (by rw [iF_up hr] at hD; exact hD) hS hL)
theorem V_last (h : Good l G own nm cc nL rm K) {a n : Nat} {f : Int → Int} {i x : Int} (q : Nat) (he : ws[q]? = some (a, .inl (G.2 1, n, .inr (.inl (lF f))))) (hr : In31 i n) (hws : ws.set q (a, .inl (G.2 1, n, .inr (.inl (lF (zup f i x))))) = ws') (hd : decode cc pc = .ok (.lastore, 1)) (kk : V K cs (pc + 1) lv st ws') : V K cs pc lv (.long (lZ x) :: .int (iZ i) :: .ref a :: st) ws := by
  intro H locs ls hP hD hS hL
  have hG := h.2.2.2.2.2.2.2.2.2.1
  subst hG
  subst hws
  exact va_last h.1 h.2.1 h.2.2.2.2.2.1.1 hP hD hS q 1 he rfl hr.vp hd (fun H locs hP hD hS => kk H locs ls (by rw [lF_up hr] at hP; exact hP) (by rw [lF_up hr] at hD; exact hD) hS hL)
/-! ends -/
theorem V_end {x : Option Value} {rt : Option FieldType} (h : Good l G own nm cc nL rm K) (hF : Fini rt mc ms PO K) (hp : PO x ws) (hcs : cs.1 ≤ mc ∧ cs.2 ≤ ms)
    (ret : ∀ (H : Heap) (locs : List Loc) (ls : Array Slot), (∀ t : State, t.heap = H → K.2.1.1.WarmedH t.vm → Qof K.2.2.2.2.1 PO K.2.2.2.2.2 K.2.1.2.2.1 K.2.1.1 (.returned x) t) → (∀ q ∈ locs, K.2.2.2.2.2 q.base) → W K.1.1 K.1.2.1 K.1.2.2.1 K.1.2.2.2 K.2.1.1 K.2.1.2.1 K.2.1.2.2.1 K.2.1.2.2.2 K.2.2.1.1 K.2.2.1.2 H locs mc ms (MQ K.2.1.2.2.2 (Qof K.2.2.2.2.1 PO K.2.2.2.2.2) K.2.1.2.2.1 K.2.1.1 mc ms K.2.2.2.2.2) (F0 K.2.1.2.1 pc ls st)) : V K cs pc lv st ws := by
  intro H locs ls hP hD hS hL
  rw [hF.1]
  refine W.widen hcs.1 hcs.2 ?_
  exact ret H locs ls (fun t ht hW => ⟨⟨x, ws, rfl, hp, by rw [ht]; exact hP, h.2.2.2.2.2.1.moved hW, hD⟩, hS.F ht⟩) hS.2.2
theorem V_iret (h : Good l G own nm cc nL rm K) {x : Int32} (hF : Fini (some .int) mc ms PO K) (hd : decode cc pc = .ok (.ireturn, 1)) (hcs : cs.1 ≤ mc ∧ cs.2 ≤ ms) (hp : PO (some (.int x)) ws) : V K cs pc lv [.int x] ws :=
  V_end h hF hp hcs (fun _ _ _ hq hf => W.iret h.1 h.2.1 hF.2.1 hq hf hd hF.2.2)
theorem V_zret (h : Good l G own nm cc nL rm K) {x : Int} (hF : Fini (some .boolean) mc ms PO K) (hd : decode cc pc = .ok (.ireturn, 1)) (hcs : cs.1 ≤ mc ∧ cs.2 ≤ ms) (hx : Z01 x) (hp : PO (some (.int (iZ x))) ws) : V K cs pc lv [.int (iZ x)] ws :=
  V_end h hF hp hcs (fun _ _ _ hq hf => W.zret h.1 h.2.1 hF.2.1 hx.n hq hf hd hF.2.2)
theorem V_cret (h : Good l G own nm cc nL rm K) {x : Int32} {ty : FieldType} (hF : Fini (some ty) mc ms PO K) (hd : decode cc pc = .ok (.ireturn, 1)) (hcs : cs.1 ≤ mc ∧ cs.2 ≤ ms) (hx : narrow ty (.int x) = .int x) (hp : PO (some (.int x)) ws) : V K cs pc lv [.int x] ws :=
  V_end h hF hp hcs (fun _ _ _ hq hf => W.zret h.1 h.2.1 hF.2.1 hx hq hf hd hF.2.2)
theorem V_vret (h : Good l G own nm cc nL rm K) (hF : Fini none mc ms PO K) (hd : decode cc pc = .ok (.return_, 1)) (hcs : cs.1 ≤ mc ∧ cs.2 ≤ ms) (hp : PO none ws) : V K cs pc lv [] ws :=
  V_end h hF hp hcs (fun _ _ _ hq hf => W.vret h.1 h.2.1 hF.2.1 hq hf hd hF.2.2)
theorem V_lret (h : Good l G own nm cc nL rm K) {x : Int64} (hF : Fini (some .long) mc ms PO K) (hd : decode cc pc = .ok (.lreturn, 1)) (hcs : cs.1 ≤ mc ∧ cs.2 ≤ ms) (hp : PO (some (.long x)) ws) : V K cs pc lv [.long x] ws :=
  V_end h hF hp hcs (fun _ _ _ hq hf => W.lret h.1 h.2.1 hF.2.1 hq hf hd hF.2.2)
theorem V_aret (h : Good l G own nm cc nL rm K) {a : Nat} {n : String} (hF : Fini (some (.object n)) mc ms PO K) (hd : decode cc pc = .ok (.areturn, 1)) (hcs : cs.1 ≤ mc ∧ cs.2 ≤ ms) (hp : PO (some (.ref a)) ws) : V K cs pc lv [.ref a] ws :=
  V_end h hF hp hcs (fun _ _ _ hq hf => W.aret h.1 h.2.1 hF.2.1 (Or.inl ⟨n, rfl⟩) (Or.inr ⟨a, rfl⟩) hq hf hd hF.2.2)
theorem V_aretN (h : Good l G own nm cc nL rm K) {n : String} (hF : Fini (some (.object n)) mc ms PO K) (hd : decode cc pc = .ok (.areturn, 1)) (hcs : cs.1 ≤ mc ∧ cs.2 ≤ ms) (hp : PO (some .null) ws) : V K cs pc lv [.null] ws :=
  V_end h hF hp hcs (fun _ _ _ hq hf => W.aret h.1 h.2.1 hF.2.1 (Or.inl ⟨n, rfl⟩) (Or.inl rfl) hq hf hd hF.2.2)
/-! a method from its contract's start -/
theorem Ctr.of {y : MethodName} {rt : Option FieldType} {as : List Value} (hy : plainFor y = true) (hown : y.cls = own) (hnm : y.name = nm) (lv0 : List (Option Value)) (hn : lv0.length = nL) (hlen : (lg_sl as).length ≤ nL) (hlv : ∀ (i : Nat) (v : Value), lv0[i]? = some (some v) → (i, v) ∈ lv_args 0 as)
    (body : ∀ K : KT, Good l G own nm cc nL rm K → Fini rt rm.cells rm.slots PO K → V K (0, 0) 0 lv0 [] ws) : Ctr l G y cc nL rt rm as ws PO := by
  intro sz
  refine va_MetF (cc := cc) (maxL := nL) (ret := rt) hy rfl ?_
  intro p e s m args below meth c s₁ B hml hv
  obtain ⟨rfl, hsz, hP, hK, hD0⟩ := hv
  have hts := atoms_spec (ws := .code y cc nL rt :: lw_all) B.pre
  have hown2 : s.vm.findClass own = some m.cls := by rw [← hown]; exact findClass_of_methodNamed B.named
  have hin : meth.name = nm := by rw [← hnm]; exact (name_of_methodNamed B.named B.method).1
  subst hsz
  have hD := hD0.self (sz := s.heap.size)
  have hl := lv_entry as (n := nL) hlen
  rw [lg_entry_eq]
  exact body ((p, l, e, rm), (s, m, as.toArray, below), (meth, c), MQ below (Qof G PO (va_A ws s.heap.size)) as.toArray s rm.cells rm.slots (va_A ws s.heap.size), G, va_A ws s.heap.size)
    ⟨B.exec, B.bytes, hml, hown2, fun w h => hts w (List.mem_cons_of_mem _ h), hK, fun q h => Or.inr h, hin, rfl, rfl, rfl⟩ ⟨rfl, B.returns, B.notSynchronized⟩ s.heap [] _ hP hD va_S.rf (hasL.of hl hn hlv)
end ROWS2
/-! calls -/
theorem Sm_eq : ∀ (is : List Nat) (ws w1 a b : va_W), Sm ws is w1 a → Sm ws is w1 b → a = b
  | [], ws, [], a, b, h1, h2 => (show ws = a from h1).symm.trans (show ws = b from h2)
  | [], _, _ :: _, _, _, h1, _ => absurd h1 (fun h => h)
  | _ :: _, _, [], _, _, h1, _ => absurd h1 (fun h => h)
  | i :: is, ws, x :: w1, a, b, h1, h2 => Sm_eq is (ws.set i x) w1 a b h1 h2
theorem Sm_sp : ∀ (is : List Nat) (ws w1 out : va_W), Sm ws is w1 out → va_nd is = true → (∀ i ∈ is, i < ws.length) → (∀ (j i : Nat), is[j]? = some i → out[i]? = w1[j]?) ∧ (∀ k : Nat, k ∉ is → out[k]? = ws[k]?)
  | [], ws, [], out, h, _, _ => by
    have h : ws = out := h
    subst h
    exact ⟨fun j i hj => by simp at hj, fun k _ => rfl⟩
  | [], _, _ :: _, _, h, _, _ => absurd h (fun h => h)
  | _ :: _, _, [], _, h, _, _ => absurd h (fun h => h)
  | i0 :: is, ws, x :: w1, out, h, hn, hl => by
    simp only [va_nd, Bool.and_eq_true, decide_eq_true_eq] at hn
    obtain ⟨a, b⟩ := Sm_sp is (ws.set i0 x) w1 out h hn.2 (fun i hi => by rw [List.length_set]; exact hl i (List.mem_cons_of_mem _ hi))
    have hi0 := hl i0 List.mem_cons_self
    refine ⟨fun j i hj => ?_, fun k hk => ?_⟩
    · cases j with
      | zero =>
        simp only [List.getElem?_cons_zero, Option.some.injEq] at hj
        subst hj
        rw [b i0 hn.1, List.getElem?_set_self hi0, List.getElem?_cons_zero]
      | succ j =>
        rw [List.getElem?_cons_succ] at hj ⊢
        exact a j i hj
    · have h1 : k ≠ i0 := fun q => hk (q ▸ List.mem_cons_self)
      rw [b k (fun q => hk (List.mem_cons_of_mem _ q)), List.getElem?_set_ne (Ne.symm h1)]
theorem Pk_sp {is : List Nat} {ws wc : va_W} (h : Pk is ws wc) (k : Nat) (q : Nat × va_E) (hq : wc[k]? = some q) : ∃ i, is[k]? = some i ∧ ws[i]? = some q := by
  unfold Pk at h
  have h1 : (is.map (fun i => ws[i]?))[k]? = some (some q) := by rw [h, List.getElem?_map, hq]; rfl
  rw [List.getElem?_map] at h1
  cases hi : is[k]? with
  | none => rw [hi] at h1; cases h1
  | some i => rw [hi] at h1; exact ⟨i, rfl, Option.some.inj h1⟩
theorem Pk_lt {is : List Nat} {ws wc : va_W} (h : Pk is ws wc) (i : Nat) (hi : i ∈ is) : i < ws.length := by
  unfold Pk at h
  have h1 : ws[i]? ∈ wc.map some := by rw [← h]; exact List.mem_map.mpr ⟨i, hi, rfl⟩
  obtain ⟨q, -, hq⟩ := List.mem_map.mp h1
  exact (List.getElem?_eq_some_iff.mp hq.symm).1
theorem va_back {A0 : Nat → Prop} {D : va_G} {cl : List vw_C} {ws wc w1 ws' : va_W} {H H1 : Heap} {isC : List Nat} (hP : va_P D cl ws H) (hD : va_D A0 ws) (hpk : Pk isC ws wc) (hn : va_nd isC = true)
    (hk : ∀ q : Nat, q < H.size → ¬ va_A wc H.size q → H1[q]? = H[q]?) (hF : ∀ q, va_A wc H.size q → A0 q) (hP1 : va_P D cl w1 H1) (hD1 : va_D (va_A wc H.size) w1) (hs : Sm ws isC w1 ws') : va_P D cl ws' H1 ∧ va_D A0 ws' := by
  obtain ⟨s1, s2⟩ := Sm_sp isC ws w1 ws' hs hn (Pk_lt hpk)
  have key : ∀ (k : Nat) (q : Nat × va_E), ws'[k]? = some q → (∃ j : Nat, isC[j]? = some k ∧ w1[j]? = some q) ∨ (k ∉ isC ∧ ws[k]? = some q ∧ q.1 < H.size ∧ ¬ va_A wc H.size q.1) := by
    intro k q hq
    by_cases hm : k ∈ isC
    · obtain ⟨j, hj⟩ := List.getElem?_of_mem hm
      exact Or.inl ⟨j, hj, by rw [← s1 j k hj]; exact hq⟩
    · rw [s2 k hm] at hq
      have hlt := (hP k q hq).lt
      refine Or.inr ⟨hm, hq, hlt, fun h => ?_⟩
      rcases h with ⟨k2, e, h⟩ | h
      · obtain ⟨i, h3, h4⟩ := Pk_sp hpk k2 (q.1, e) h
        have hij := hD.1 k i q (q.1, e) hq h4 rfl
        subst hij
        exact hm (List.mem_of_getElem? h3)
      · omega
  refine ⟨fun k q hq => ?_, fun i j x y hx hy hxy => ?_, fun k q hq => ?_⟩
  · rcases key k q hq with ⟨j, -, h⟩ | ⟨-, h, h1, h2⟩
    · exact hP1 j q h
    · exact (hP k q h).kept (hk q.1 h1 h2)
  · rcases key i x hx with ⟨a, ha, h⟩ | ⟨-, h, h1, h2⟩ <;> rcases key j y hy with ⟨b, hb, h'⟩ | ⟨-, h', h1', h2'⟩
    · have := hD1.1 a b x y h h' hxy
      subst this
      rw [ha] at hb
      exact Option.some.inj hb
    · exact absurd (hD1.2 a x h) (by rw [hxy]; exact h2')
    · exact absurd (hD1.2 b y h') (by rw [← hxy]; exact h2)
    · exact hD.1 i j x y h h' hxy
  · rcases key k q hq with ⟨j, -, h⟩ | ⟨-, h, -, -⟩
    · exact hF q.1 (hD1.2 j q h)
    · exact hD.2 k q h
section CALLS
variable {l : Launch} {G : GT} {own nm : String} {cc : ByteArray} {nL : Nat} {rm : Room} {K : KT} {cs : Nat × Nat} {pc : Nat} {lv lv' : List (Option Value)} {st st' rest : List Value} {ws ws' wc w1 : va_W} {PO : Option Value → va_W → Prop} {mc ms : Nat}
variable {y : MethodName} {cy : ByteArray} {nLy n idx : Nat} {rt : Option FieldType} {rmy : Room} {as : List Value} {isC : List Nat}
theorem pre_blind {as : List Value} {sz : Nat} {wc : va_W} : FrameBlind (va_Pc as (fun U => U.heap.size = sz ∧ va_P G.1 vwCl wc U.heap ∧ KK G U ∧ va_D (fun _ => True) wc)) :=
  fun a U g mk q => ⟨q.1, q.2.1, q.2.2.1, KK.same (u := U) (U := U.calling g mk a) rfl q.2.2.2.1, q.2.2.2.2⟩
theorem va_callX {p : Program} {e : Env} {R : Room} {s : State} {m : MethodId} {args : Array Value} {below : List Frame} {meth : Method} {c : Code} {H H0 : Heap} {locs : List Loc} {cells slots : Nat} {Q : State → Prop} {ls : Array Slot} {a : Array Value} {A0 A1 : Nat → Prop}
    (hr : va_Run p l e R s m args below meth c H locs cells slots mc ms (F0 m pc ls st) rest (Qof G PO A1 a) A1) (hS : va_S A0 H0 H locs) (hA : ∀ q, A1 q → A0 q)
    (kk : ∀ (v : Option Value) (w : va_W) (H1 : Heap) (locs1 : List Loc), PO v w → va_P G.1 vwCl w H1 → va_D A1 w → H.size ≤ H1.size → (∀ q : Nat, q < H.size → ¬ A1 q → H1[q]? = H[q]?) → va_S A0 H0 H1 locs1 → W p l e R s m args below meth c H1 locs1 (cells + mc) (slots + ms) Q (F0 m (pc + 3) ls (v.toList ++ rest))) : W p l e R s m args below meth c H locs cells slots Q (F0 m pc ls st) := by
  intro T hT X
  obtain ⟨v, st₀, t, T', L, h0, X', hL, e1, e2, ⟨⟨v', w, hv, hp, hP, -, hD⟩, hz, hk⟩, st⟩ := hr T hT X
  cases hv
  rw [h0] at hz hk
  rw [← e1] at hP hz hk
  obtain ⟨t2, a1, b1⟩ := kk v w T'.heap (locs ++ L) hp hP hD hz hk
    ⟨Nat.le_trans hS.1 hz, fun q h1 h2 => by rw [hk q (Nat.lt_of_lt_of_le h1 hS.1) (fun z => h2 (hA q z))]; exact hS.2.1 q h1 h2, fun q hq => by
      rcases List.mem_append.mp hq with h | h
      · exact hS.2.2 q h
      · exact hA _ (hL q h)⟩ T' rfl X'
  exact ⟨t2, st t2 a1, b1⟩
theorem stk_eq {v : Option Value} : v.toList ++ rest = stk v rest := by cases v <;> rfl
theorem Pk_free {A : Nat → Prop} {H0 H : Heap} {locs : List Loc} (hpk : Pk isC ws wc) (hD : va_D A ws) (hS : va_S A H0 H locs) (hA : ∀ q, H0.size ≤ q → A q) : ∀ q, va_A wc H.size q → A q := by
  intro q h
  rcases h with ⟨k, e, h⟩ | h
  · obtain ⟨i, -, h2⟩ := Pk_sp hpk k (q, e) h
    exact hD.2 i (q, e) h2
  · exact hA q (Nat.le_trans hS.1 h)
theorem Pk_P {D : va_G} {cl : List vw_C} {H : Heap} (hpk : Pk isC ws wc) (hP : va_P D cl ws H) : va_P D cl wc H := fun k q hq => by
  obtain ⟨i, -, h2⟩ := Pk_sp hpk k q hq
  exact hP i q h2
theorem V_callSg (h : Good l G own nm cc nL rm K) (hst : st = as.reverse ++ rest) (hci : CIs own idx y cy nLy rt n) (hpk : Pk isC ws wc) (hnd : va_nd isC = true) (hM : Ctr l G y cy nLy rt rmy as wc PO) (hn : as.length = n) (hlv : lv.length = nL) (hroom : (rest.map fun v => v.category).sum ≤ 8)
    (hrm : rmy.frames + 1 ≤ rm.frames ∧ 8 + (nLy + 11) + rmy.locals ≤ rm.locals) (hcs : cs.1 + rmy.cells ≤ rm.cells ∧ cs.2 + rmy.slots ≤ rm.slots) (hd : decode cc pc = .ok (.invokestatic idx, 3))
    (k : ∀ v w1, PO v w1 → ∃ ws', Sm ws isC w1 ws' ∧ V K (cs.1 + rmy.cells, cs.2 + rmy.slots) (pc + 3) lv (stk v rest) ws') : V K cs pc lv st ws := by
  intro H locs ls hP hD hS hL
  have hF := Pk_free hpk hD hS h.2.2.2.2.2.2.1
  obtain ⟨hx, hb, hml, hown, hts, hKK, hA, hnm, hl, hG, hR⟩ := h
  subst hl; subst hG; subst hR
  refine va_callX (va_runS (As := as) (rest := rest) ⟨hx, hb, hml, hown, hts⟩ (hM H.size) (va_cwS n hts hci.1 rfl rfl rfl hci.2 hrm) ⟨pre_blind, fun U hU hW => ⟨rfl, by rw [hU], by rw [hU]; exact Pk_P hpk hP, hKK.moved hW, ?_⟩⟩ rfl hn (hL.1.trans hlv) hst (lv_room hroom) hd hcs) hS hF (fun v w H1 locs1 hp hP1 hD1 hz hk hS1 => ?_)
  · refine ⟨fun i j p q hi hj hpq => ?_, fun _ _ _ => trivial⟩
    obtain ⟨a, a1, a2⟩ := Pk_sp hpk i p hi
    obtain ⟨b, b1, b2⟩ := Pk_sp hpk j q hj
    have hab := hD.1 a b p q a2 b2 hpq
    subst hab
    exact va_nd_inj isC hnd i j a a1 b1
  · obtain ⟨ws', hs, k⟩ := k v w hp
    obtain ⟨hP2, hD2⟩ := va_back hP hD hpk hnd hk hF hP1 hD1 hs
    rw [stk_eq]
    exact k H1 locs1 ls hP2 hD2 hS1 hL
theorem V_callVg (h : Good l G own nm cc nL rm K) {b ci : Nat} {fs : List Value} {T : u_T} {N : Nat} (hst : st = (.ref b :: as).reverse ++ rest) (hci : CIv own idx y cy nLy rt n) (hpk : Pk isC ws wc) (hnd : va_nd isC = true) (q0 : Nat) (he : ws[q0]? = some (b, .inr (ci, fs))) (hc : vwCl[ci]? = some (y.cls, T, N)) (hM : Ctr l G y cy nLy rt rmy (.ref b :: as) wc PO) (hn : as.length = n) (hlv : lv.length = nL) (hroom : (rest.map fun v => v.category).sum ≤ 8)
    (hrm : rmy.frames + 1 ≤ rm.frames ∧ 8 + (nLy + 11) + rmy.locals ≤ rm.locals) (hcs : cs.1 + rmy.cells ≤ rm.cells ∧ cs.2 + rmy.slots ≤ rm.slots) (hd : decode cc pc = .ok (.invokevirtual idx, 3))
    (k : ∀ v w1, PO v w1 → ∃ ws', Sm ws isC w1 ws' ∧ V K (cs.1 + rmy.cells, cs.2 + rmy.slots) (pc + 3) lv (stk v rest) ws') : V K cs pc lv st ws := by
  intro H locs ls hP hD hS hL
  have hF := Pk_free hpk hD hS h.2.2.2.2.2.2.1
  obtain ⟨hx, hb, hml, hown, hts, hKK, hA, hnm, hl, hG, hR⟩ := h
  subst hl; subst hG; subst hR
  refine va_callX (va_runV (As := as) (rest := rest) ⟨hx, hb, hml, hown, hts⟩ (hM H.size) (cwV n hts hci.1 rfl rfl rfl ⟨rfl, hci.2⟩ hrm) ⟨pre_blind, va_recv hKK.1 hP hc he, fun U hU hW => ⟨rfl, by rw [hU], by rw [hU]; exact Pk_P hpk hP, hKK.moved hW, ?_⟩⟩ rfl hn (hL.1.trans hlv) (hst.trans (by rw [List.reverse_cons, List.append_assoc]; rfl)) (lv_room hroom) hd hcs) hS hF (fun v w H1 locs1 hp hP1 hD1 hz hk hS1 => ?_)
  · refine ⟨fun i j p q hi hj hpq => ?_, fun _ _ _ => trivial⟩
    obtain ⟨a, a1, a2⟩ := Pk_sp hpk i p hi
    obtain ⟨b, b1, b2⟩ := Pk_sp hpk j q hj
    have hab := hD.1 a b p q a2 b2 hpq
    subst hab
    exact va_nd_inj isC hnd i j a a1 b1
  · obtain ⟨ws', hs, k⟩ := k v w hp
    obtain ⟨hP2, hD2⟩ := va_back hP hD hpk hnd hk hF hP1 hD1 hs
    rw [stk_eq]
    exact k H1 locs1 ls hP2 hD2 hS1 hL
/-- a call whose answer and whose cells are known, that makes nothing -/
theorem V_callS (h : Good l G own nm cc nL rm K) {v : Option Value} (hst : st = as.reverse ++ rest) (hci : CIs own idx y cy nLy rt n) (hpk : Pk isC ws wc) (hnd : va_nd isC = true) (hM : Ctr l G y cy nLy rt rmy as wc (Det v w1)) (hn : as.length = n) (hlv : lv.length = nL) (hroom : (rest.map fun v => v.category).sum ≤ 8)
    (hrm : rmy.frames + 1 ≤ rm.frames ∧ 8 + (nLy + 11) + rmy.locals ≤ rm.locals) (hz : rmy.cells = 0 ∧ rmy.slots = 0 ∧ cs = (0, 0)) (hd : decode cc pc = .ok (.invokestatic idx, 3)) (hsk : stk v rest = st') (hsm : Sm ws isC w1 ws')
    (k : V K cs (pc + 3) lv st' ws') : V K cs pc lv st ws := by
  obtain ⟨z1, z2, rfl⟩ := hz
  refine V_callSg h hst hci hpk hnd hM hn hlv hroom hrm (by rw [z1, z2]; exact ⟨Nat.zero_le _, Nat.zero_le _⟩) hd ?_
  rintro _ _ ⟨rfl, rfl⟩
  exact ⟨ws', hsm, by rw [z1, z2, hsk]; exact k⟩
theorem V_callV (h : Good l G own nm cc nL rm K) {v : Option Value} {b ci : Nat} {fs : List Value} {T : u_T} {N : Nat} (hst : st = (.ref b :: as).reverse ++ rest) (hci : CIv own idx y cy nLy rt n) (hpk : Pk isC ws wc) (hnd : va_nd isC = true) (q0 : Nat) (he : ws[q0]? = some (b, .inr (ci, fs))) (hc : vwCl[ci]? = some (y.cls, T, N)) (hM : Ctr l G y cy nLy rt rmy (.ref b :: as) wc (Det v w1)) (hn : as.length = n) (hlv : lv.length = nL) (hroom : (rest.map fun v => v.category).sum ≤ 8)
    (hrm : rmy.frames + 1 ≤ rm.frames ∧ 8 + (nLy + 11) + rmy.locals ≤ rm.locals) (hz : rmy.cells = 0 ∧ rmy.slots = 0 ∧ cs = (0, 0)) (hd : decode cc pc = .ok (.invokevirtual idx, 3)) (hsk : stk v rest = st') (hsm : Sm ws isC w1 ws')
    (k : V K cs (pc + 3) lv st' ws') : V K cs pc lv st ws := by
  obtain ⟨z1, z2, rfl⟩ := hz
  refine V_callVg h hst hci hpk hnd q0 he hc hM hn hlv hroom hrm (by rw [z1, z2]; exact ⟨Nat.zero_le _, Nat.zero_le _⟩) hd ?_
  rintro _ _ ⟨rfl, rfl⟩
  exact ⟨ws', hsm, by rw [z1, z2, hsk]; exact k⟩
end CALLS
theorem det_i {x r : Int} {ws w1 : va_W} (h : x = r) (hw : ws = w1) : Det (some (.int (iZ r))) w1 (some (.int (iZ x))) ws := ⟨by rw [h], hw⟩
theorem det_l {x r : Int} {ws w1 : va_W} (h : x = r) (hw : ws = w1) : Det (some (.long (lZ r))) w1 (some (.long (lZ x))) ws := ⟨by rw [h], hw⟩
theorem det_v {ws w1 : va_W} (hw : ws = w1) : Det none w1 none ws := ⟨rfl, hw⟩
