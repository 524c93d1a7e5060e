/-! further rows of V -/
section ROWS3
variable {l : Launch} {G : GT} {own nm : String} {cc : ByteArray} {nL : Nat} {rm : Room} {K : KT} {cs : Nat × Nat} {pc : Nat} {lv lv' : List (Option Value)} {st st' : List Value} {ws ws' : va_W} {PO : Option Value → va_W → Prop} {mc ms : Nat}
theorem V_null (h : Good l G own nm cc nL rm K) (hd : decode cc pc = .ok (.aconst_null, 1)) (k : V K cs (pc + 1) lv (.null :: st) ws) : V K cs pc lv st ws := fun H locs ls hP hD hS hL => lv_null h.1 h.2.1 hd (k H locs ls hP hD hS hL)
theorem V_aload_nN (h : Good l G own nm cc nL rm K) {kk : Fin 4} {i : Nat} (hd : decode cc pc = .ok (.aload_n kk, 1)) (hi : (kk : Nat) = i) (hv : lv[i]? = some (some .null)) (k : V K cs (pc + 1) lv (.null :: st) ws) : V K cs pc lv st ws := fun H locs ls hP hD hS hL => lv_aload_nN h.1 h.2.1 hd hi (hL.get hv) (k H locs ls hP hD hS hL)
theorem V_aloadN (h : Good l G own nm cc nL rm K) {i : Nat} (hd : decode cc pc = .ok (.aload i, 2)) (hv : lv[i]? = some (some .null)) (k : V K cs (pc + 2) lv (.null :: st) ws) : V K cs pc lv st ws := fun H locs ls hP hD hS hL => lv_aloadN h.1 h.2.1 hd (hL.get hv) (k H locs ls hP hD hS hL)
theorem V_astore_nN (h : Good l G own nm cc nL rm K) {kk : Fin 4} {i : Nat} (hd : decode cc pc = .ok (.astore_n kk, 1)) (hi : (kk : Nat) = i) (hn : i < lv.length) (hp : pok lv i = true) (hs : lv.set i (some .null) = lv') (k : V K cs (pc + 1) lv' st ws) : V K cs pc lv (.null :: st) ws := fun H locs ls hP hD hS hL => lv_astore_nN h.1 h.2.1 hd hi hL.to hn rfl (fun ls2 hl2 => k H locs ls2 hP hD hS (hasL.st1 hn hp hs hl2))
theorem V_ifnull (h : Good l G own nm cc nL rm K) {x : Nat} {off : Int} (hd : decode cc pc = .ok (.ifnull off, 3)) (k : V K cs (pc + 3) lv st ws) : V K cs pc lv (.ref x :: st) ws := fun H locs ls hP hD hS hL => lv_ifnull h.1 h.2.1 hd (k H locs ls hP hD hS hL)
theorem V_ifnonnull (h : Good l G own nm cc nL rm K) {x tgt : Nat} {off : Int} (hd : decode cc pc = .ok (.ifnonnull off, 3)) (ht : (pc : Int) + off = (tgt : Int)) (k : V K cs tgt lv st ws) : V K cs pc lv (.ref x :: st) ws := fun H locs ls hP hD hS hL => lv_ifnonnull h.1 h.2.1 hd ht (k H locs ls hP hD hS hL)
theorem V_ifnullN (h : Good l G own nm cc nL rm K) {tgt : Nat} {off : Int} (hd : decode cc pc = .ok (.ifnull off, 3)) (ht : (pc : Int) + off = (tgt : Int)) (k : V K cs tgt lv st ws) : V K cs pc lv (.null :: st) ws := fun H locs ls hP hD hS hL => lv_ifnullN h.1 h.2.1 hd ht (k H locs ls hP hD hS hL)
theorem V_ifnonnullN (h : Good l G own nm cc nL rm K) {off : Int} (hd : decode cc pc = .ok (.ifnonnull off, 3)) (k : V K cs (pc + 3) lv st ws) : V K cs pc lv (.null :: st) ws := fun H locs ls hP hD hS hL => lv_ifnonnullN h.1 h.2.1 hd (k H locs ls hP hD hS hL)
theorem V_dup2l (h : Good l G own nm cc nL rm K) {v : Value} (hd : decode cc pc = .ok (.dup2, 1)) (hc : v.category = 2) (k : V K cs (pc + 1) lv (v :: v :: st) ws) : V K cs pc lv (v :: st) ws := fun H locs ls hP hD hS hL => lv_dup2_2 h.1 h.2.1 hd hc (k H locs ls hP hD hS hL)
theorem V_alen (h : Good l G own nm cc nL rm K) {a : Nat} {x : vp_A} {cA : ClassId} {ty : FieldType} (q : Nat) (he : ws[q]? = some (a, .inl (cA, x))) (t0 : Nat) (ht : (tysOf G)[t0]? = some (cA, ty)) (hd : decode cc pc = .ok (.arraylength, 1)) (k : V K cs (pc + 1) lv (.int (iZ (x.1 : Int)) :: st) ws) : V K cs pc lv (.ref a :: st) ws := fun H locs ls hP hD hS hL => by
  have hG := h.2.2.2.2.2.2.2.2.2.1
  subst hG
  exact va_alen h.1 h.2.1 h.2.2.2.2.2.1.1 hP q t0 he ht (iZ_nI x.1) hd (k H locs ls hP hD hS hL)
theorem iZ_i2c {a : Int} (h : 0 ≤ a ∧ a < 65536) : ((iZ a).toUInt32 % 65536).toInt32 = iZ a := by
  obtain ⟨n, rfl⟩ : ∃ n : Nat, a = (n : Int) := ⟨a.toNat, (Int.toNat_of_nonneg h.1).symm⟩
  have hn : n < 65536 := by omega
  have e := pk_char (nI n)
  rw [pk_tn (by omega), Nat.mod_eq_of_lt hn] at e
  exact e
theorem V_i2c (h : Good l G own nm cc nL rm K) {a : Int} (hd : decode cc pc = .ok (.i2c, 1)) (hr : 0 ≤ a ∧ a < 65536) (k : V K cs (pc + 1) lv (.int (iZ a) :: st) ws) : V K cs pc lv (.int (iZ a) :: st) ws := fun H locs ls hP hD hS hL => lv_i2c h.1 h.2.1 hd (iZ_i2c hr) (k H locs ls hP hD hS hL)
theorem nar_c {x : Int} (hx : 0 ≤ x ∧ x < 65536) : narrow .char (.int (iZ x)) = .int (iZ x) := by
  obtain ⟨n, rfl⟩ : ∃ n : Nat, x = (n : Int) := ⟨x.toNat, (Int.toNat_of_nonneg hx.1).symm⟩
  exact (pk_charN (q := n) (by omega)).1
theorem V_cast (h : Good l G own nm cc nL rm K) {a n : Nat} {f : Int → Int} {i x : Int} (q : Nat) (he : ws[q]? = some (a, .inl (G.2 3, n, .inl (iF f)))) (hr : In31 i n) (hx : 0 ≤ x ∧ x < 65536) (hws : ws.set q (a, .inl (G.2 3, n, .inl (iF (zup f i x)))) = ws') (hd : decode cc pc = .ok (.castore, 1)) (kk : V K cs (pc + 1) lv st ws') : V K cs pc lv (.int (iZ x) :: .int (iZ i) :: .ref a :: st) ws := by
  intro H locs ls hP hD hS hL
  have hG := h.2.2.2.2.2.2.2.2.2.1
  subst hG
  subst hws
  have hv : vp_nar .char (iZ x) = iZ x := by unfold vp_nar; rw [nar_c hx]
  exact va_cast h.1 h.2.1 h.2.2.2.2.2.1.1 hP hD hS q 3 he rfl hr.vp hd (fun H locs hP hD hS => kk H locs ls (by rw [hv, iF_up hr] at hP; exact hP) (by rw [hv, iF_up hr] at hD; exact hD) hS hL)
theorem V_obj (h : Good l G own nm cc nL rm K) {idx a : Nat} (hq : Cond.methodLink own idx objectInit ∈ lw_all) (hd : decode cc pc = .ok (.invokespecial idx, 3)) (hr : 1 ≤ rm.frames ∧ 20 ≤ rm.locals ∧ (st.map fun v => v.category).sum ≤ 8 ∧ lv.length = nL) (k : V K cs (pc + 3) lv st ws) : V K cs pc lv (.ref a :: st) ws := by
  intro H locs ls hP hD hS hL
  have k := k H locs ls hP hD hS hL
  obtain ⟨hx, hb, hml, hown, hts, hKK, hA, hnm, hl, hG, hR⟩ := h
  subst hR
  refine W.objInit hx hb hown (hts _ hq) (hts _ q1_22) (hts _ q1_23) rfl (hL.1.trans (hr.2.2.2.trans hml.symm)) rfl hd hr.1 ?_ ?_
  · have := hr.2.1
    have := hr.2.2.1
    show 2 * JFrame.monitorRoom _ + _ + 12 ≤ _
    have h0 : (F0 K.2.1.2.1 pc ls (.ref a :: st)).monitorRoom = 0 := rfl
    rw [h0]
    omega
  · exact W.eq (g2 := F0 K.2.1.2.1 (pc + 3) ls st) rfl k
def lvOf : List Value → List (Option Value)
  | [] => []
  | v :: vs => if v.category = 2 then some v :: none :: lvOf vs else some v :: lvOf vs
theorem lvOf_mem : ∀ (as : List Value) (k j : Nat) (i : Nat) (v : Value), (lvOf as ++ List.replicate k none)[i]? = some (some v) → (j + i, v) ∈ lv_args j as
  | [], k, j, i, v, h => by
    simp only [lvOf, List.nil_append, List.getElem?_replicate] at h
    split at h <;> cases h
  | x :: as, k, j, i, v, h => by
    unfold lvOf at h
    unfold lv_args
    by_cases hc : x.category = 2
    · rw [if_pos hc] at h ⊢
      match i, h with
      | 0, h => cases h; exact List.mem_cons_self
      | 1, h => cases h
      | i + 2, h =>
        have e := lvOf_mem as k (j + 2) i v h
        rw [show j + (i + 2) = j + 2 + i by omega]
        exact List.mem_cons_of_mem _ e
    · rw [if_neg hc] at h ⊢
      match i, h with
      | 0, h => cases h; exact List.mem_cons_self
      | i + 1, h =>
        have e := lvOf_mem as k (j + 1) i v h
        rw [show j + (i + 1) = j + 1 + i by omega]
        exact List.mem_cons_of_mem _ e
theorem Ctr.go {y : MethodName} {rt : Option FieldType} {as : List Value} (hy : plainFor y = true) (hown : y.cls = own) (hnm : y.name = nm) (lv : List (Option Value)) (k : Nat) (hlv : lvOf as ++ List.replicate k none = lv) (hn : lv.length = nL) (hlen : (lg_sl as).length ≤ nL)
    (body : ∀ K : KT, Good l G own nm cc nL rm K → Fini rt rm.cells rm.slots PO K → V K (0, 0) 0 lv [] ws) : Ctr l G y cc nL rt rm as ws PO :=
  Ctr.of hy hown hnm lv hn hlen (fun i v h => by
    have e := lvOf_mem as k 0 i v (by rw [hlv]; exact h)
    rwa [Nat.zero_add] at e) body
theorem lgc {a b : Int} (hr : R64 a ∧ R64 b) : lg_cmp (lZ a) (lZ b) = iZ (if b < a then 1 else if a = b then 0 else -1) := by
  unfold lg_cmp
  simp only [gt_iff_lt, lZ_lt hr.2 hr.1, lZ_eq hr.1 hr.2, beq_iff_eq]
  split
  · decide +kernel
  · split <;> decide +kernel
theorem lgc_R {a b : Int} : R32 (if b < a then 1 else if a = b then 0 else -1) := by
  split
  · decide
  · split <;> decide
theorem V_lcmp_eq (h : Good l G own nm cc nL rm K) {a b off : Int} {tgt : Nat} (hd : decode cc pc = .ok (.lcmp, 1)) (hd2 : decode cc (pc + 1) = .ok (.ifCond .eq off, 3)) (ht : ((pc + 1 : Nat) : Int) + off = (tgt : Int)) (hr : R64 a ∧ R64 b) (kt : a = b → V K cs tgt lv st ws) (kf : ¬ a = b → V K cs (pc + 1 + 3) lv st ws) : V K cs pc lv (.long (lZ b) :: .long (lZ a) :: st) ws := by
  have k2 := V_if_eq (lv := lv) (st := st) (ws := ws) (cs := cs) (a := if b < a then 1 else if a = b then 0 else -1) h hd2 ht lgc_R (fun hc => kt (by split at hc <;> (try split at hc) <;> omega)) (fun hc => kf (by split at hc <;> (try split at hc) <;> omega))
  intro H locs ls hP hD hS hL
  refine W.lcmp h.1 h.2.1 hd ?_
  rw [lgc hr]
  exact k2 H locs ls hP hD hS hL
theorem V_lcmp_ne (h : Good l G own nm cc nL rm K) {a b off : Int} {tgt : Nat} (hd : decode cc pc = .ok (.lcmp, 1)) (hd2 : decode cc (pc + 1) = .ok (.ifCond .ne off, 3)) (ht : ((pc + 1 : Nat) : Int) + off = (tgt : Int)) (hr : R64 a ∧ R64 b) (kt : ¬ a = b → V K cs tgt lv st ws) (kf : a = b → V K cs (pc + 1 + 3) lv st ws) : V K cs pc lv (.long (lZ b) :: .long (lZ a) :: st) ws := by
  have k2 := V_if_ne (lv := lv) (st := st) (ws := ws) (cs := cs) (a := if b < a then 1 else if a = b then 0 else -1) h hd2 ht lgc_R (fun hc => kt (by split at hc <;> (try split at hc) <;> omega)) (fun hc => kf (by split at hc <;> (try split at hc) <;> omega))
  intro H locs ls hP hD hS hL
  refine W.lcmp h.1 h.2.1 hd ?_
  rw [lgc hr]
  exact k2 H locs ls hP hD hS hL
theorem V_lcmp_lt (h : Good l G own nm cc nL rm K) {a b off : Int} {tgt : Nat} (hd : decode cc pc = .ok (.lcmp, 1)) (hd2 : decode cc (pc + 1) = .ok (.ifCond .lt off, 3)) (ht : ((pc + 1 : Nat) : Int) + off = (tgt : Int)) (hr : R64 a ∧ R64 b) (kt : a < b → V K cs tgt lv st ws) (kf : b ≤ a → V K cs (pc + 1 + 3) lv st ws) : V K cs pc lv (.long (lZ b) :: .long (lZ a) :: st) ws := by
  have k2 := V_if_lt (lv := lv) (st := st) (ws := ws) (cs := cs) (a := if b < a then 1 else if a = b then 0 else -1) h hd2 ht lgc_R (fun hc => kt (by split at hc <;> (try split at hc) <;> omega)) (fun hc => kf (by split at hc <;> (try split at hc) <;> omega))
  intro H locs ls hP hD hS hL
  refine W.lcmp h.1 h.2.1 hd ?_
  rw [lgc hr]
  exact k2 H locs ls hP hD hS hL
theorem V_lcmp_ge (h : Good l G own nm cc nL rm K) {a b off : Int} {tgt : Nat} (hd : decode cc pc = .ok (.lcmp, 1)) (hd2 : decode cc (pc + 1) = .ok (.ifCond .ge off, 3)) (ht : ((pc + 1 : Nat) : Int) + off = (tgt : Int)) (hr : R64 a ∧ R64 b) (kt : b ≤ a → V K cs tgt lv st ws) (kf : a < b → V K cs (pc + 1 + 3) lv st ws) : V K cs pc lv (.long (lZ b) :: .long (lZ a) :: st) ws := by
  have k2 := V_if_ge (lv := lv) (st := st) (ws := ws) (cs := cs) (a := if b < a then 1 else if a = b then 0 else -1) h hd2 ht lgc_R (fun hc => kt (by split at hc <;> (try split at hc) <;> omega)) (fun hc => kf (by split at hc <;> (try split at hc) <;> omega))
  intro H locs ls hP hD hS hL
  refine W.lcmp h.1 h.2.1 hd ?_
  rw [lgc hr]
  exact k2 H locs ls hP hD hS hL
theorem V_lcmp_gt (h : Good l G own nm cc nL rm K) {a b off : Int} {tgt : Nat} (hd : decode cc pc = .ok (.lcmp, 1)) (hd2 : decode cc (pc + 1) = .ok (.ifCond .gt off, 3)) (ht : ((pc + 1 : Nat) : Int) + off = (tgt : Int)) (hr : R64 a ∧ R64 b) (kt : b < a → V K cs tgt lv st ws) (kf : a ≤ b → V K cs (pc + 1 + 3) lv st ws) : V K cs pc lv (.long (lZ b) :: .long (lZ a) :: st) ws := by
  have k2 := V_if_gt (lv := lv) (st := st) (ws := ws) (cs := cs) (a := if b < a then 1 else if a = b then 0 else -1) h hd2 ht lgc_R (fun hc => kt (by split at hc <;> (try split at hc) <;> omega)) (fun hc => kf (by split at hc <;> (try split at hc) <;> omega))
  intro H locs ls hP hD hS hL
  refine W.lcmp h.1 h.2.1 hd ?_
  rw [lgc hr]
  exact k2 H locs ls hP hD hS hL
theorem V_lcmp_le (h : Good l G own nm cc nL rm K) {a b off : Int} {tgt : Nat} (hd : decode cc pc = .ok (.lcmp, 1)) (hd2 : decode cc (pc + 1) = .ok (.ifCond .le off, 3)) (ht : ((pc + 1 : Nat) : Int) + off = (tgt : Int)) (hr : R64 a ∧ R64 b) (kt : a ≤ b → V K cs tgt lv st ws) (kf : b < a → V K cs (pc + 1 + 3) lv st ws) : V K cs pc lv (.long (lZ b) :: .long (lZ a) :: st) ws := by
  have k2 := V_if_le (lv := lv) (st := st) (ws := ws) (cs := cs) (a := if b < a then 1 else if a = b then 0 else -1) h hd2 ht lgc_R (fun hc => kt (by split at hc <;> (try split at hc) <;> omega)) (fun hc => kf (by split at hc <;> (try split at hc) <;> omega))
  intro H locs ls hP hD hS hL
  refine W.lcmp h.1 h.2.1 hd ?_
  rw [lgc hr]
  exact k2 H locs ls hP hD hS hL
theorem V_tsO (h : Good l G own nm cc nL rm K) {dflt lo hi a : Int} {offs : Array Int} {len tgt : Nat} (hd : decode cc pc = .ok (.tableswitch dflt lo hi offs, len)) (hr : R32 a ∧ (a < lo ∨ hi < a)) (ht : (pc : Int) + dflt = (tgt : Int)) (k : V K cs tgt lv st ws) : V K cs pc lv (.int (iZ a) :: st) ws := fun H locs ls hP hD hS hL => lv_tableOut h.1 h.2.1 hd (by rw [iZ_toInt hr.1]; exact hr.2) ht (k H locs ls hP hD hS hL)
theorem V_tsI (h : Good l G own nm cc nL rm K) {dflt lo hi a off : Int} (v : Int) {offs : Array Int} {len tgt : Nat} (hd : decode cc pc = .ok (.tableswitch dflt lo hi offs, len)) (hr : a = v ∧ R32 v ∧ lo ≤ v ∧ v ≤ hi) (ho : offs[(v - lo).toNat]? = some off) (ht : (pc : Int) + off = (tgt : Int)) (k : V K cs tgt lv st ws) : V K cs pc lv (.int (iZ a) :: st) ws := by
  obtain ⟨rfl, h1, h2, h3⟩ := hr
  exact fun H locs ls hP hD hS hL => lv_tableIn h.1 h.2.1 hd (by rw [iZ_toInt h1]; omega) (by rw [iZ_toInt h1]; omega) (by rw [iZ_toInt h1]; exact ho) ht (k H locs ls hP hD hS hL)
theorem xor_ge {a b : Int} (ha : R32 a) (hb : R32 b) : 0 ≤ (iZ a ^^^ iZ b).toInt ↔ (0 ≤ a ↔ 0 ≤ b) := by
  have e : ∀ x : Int32, 0 ≤ x.toInt ↔ x.toBitVec.msb = false := fun x => by
    show 0 ≤ x.toBitVec.toInt ↔ _
    rw [BitVec.msb_eq_toInt]
    simp
  have h : (iZ a ^^^ iZ b).toBitVec = (iZ a).toBitVec ^^^ (iZ b).toBitVec := rfl
  have h1 := e (iZ a)
  have h2 := e (iZ b)
  rw [iZ_toInt ha] at h1
  rw [iZ_toInt hb] at h2
  rw [e, h, BitVec.msb_xor, h1, h2]
  cases (iZ a).toBitVec.msb <;> cases (iZ b).toBitVec.msb <;> simp
theorem V_xor_ge (h : Good l G own nm cc nL rm K) {a b off : Int} {tgt : Nat} (hd : decode cc pc = .ok (.ixor, 1)) (hd2 : decode cc (pc + 1) = .ok (.ifCond .ge off, 3)) (ht : ((pc + 1 : Nat) : Int) + off = (tgt : Int)) (hr : R32 a ∧ R32 b) (kt : (0 ≤ a ↔ 0 ≤ b) → V K cs tgt lv st ws) (kf : ¬ (0 ≤ a ↔ 0 ≤ b) → V K cs (pc + 1 + 3) lv st ws) : V K cs pc lv (.int (iZ b) :: .int (iZ a) :: st) ws := by
  have k2 := V_if_ge (lv := lv) (st := st) (ws := ws) (cs := cs) (a := (iZ a ^^^ iZ b).toInt) h hd2 ht (iZ_R _) (fun hc => kt ((xor_ge hr.1 hr.2).mp hc)) (fun hc => kf (fun q => by have := (xor_ge hr.1 hr.2).mpr q; omega))
  intro H locs ls hP hD hS hL
  refine lv_ixor h.1 h.2.1 hd ?_
  have k3 := k2 H locs ls hP hD hS hL
  rw [iZ_of] at k3
  exact k3
def lvLe : List (Option Value) → List (Option Value) → Prop
  | [], [] => True
  | none :: a, _ :: b => lvLe a b
  | some v :: a, some u :: b => v = u ∧ lvLe a b
  | _, _ => False
theorem lw_n : lvLe [] [] := trivial
theorem lw_o {a b : List (Option Value)} {x : Option Value} (h : lvLe a b) : lvLe (none :: a) (x :: b) := h
theorem lw_s {a b : List (Option Value)} {x : Option Value} (h : lvLe a b) : lvLe (x :: a) (x :: b) := by
  cases x with
  | none => exact h
  | some v => exact ⟨rfl, h⟩
theorem lvLe_sp : ∀ (a b : List (Option Value)), lvLe a b → a.length = b.length ∧ ∀ (i : Nat) (v : Value), a[i]? = some (some v) → b[i]? = some (some v)
  | [], [], _ => ⟨rfl, fun _ _ h => h⟩
  | none :: a, y :: b, h => by
    obtain ⟨h1, h2⟩ := lvLe_sp a b h
    refine ⟨by simp [h1], fun i v hi => ?_⟩
    cases i with
    | zero => cases hi
    | succ i => exact h2 i v hi
  | some v :: a, some u :: b, h => by
    obtain ⟨h1, h2⟩ := lvLe_sp a b h.2
    have e := h.1
    subst e
    refine ⟨by simp [h1], fun i v hi => ?_⟩
    cases i with
    | zero => exact hi
    | succ i => exact h2 i v hi
  | some _ :: _, none :: _, h => absurd h (fun h => h)
  | [], _ :: _, h => absurd h (fun h => h)
  | none :: _, [], h => absurd h (fun h => h)
  | some _ :: _, [], h => absurd h (fun h => h)
theorem V_wk (hl : lvLe lv' lv) (k : V K cs pc lv' st ws) : V K cs pc lv st ws := fun H locs ls hP hD hS hL => by
  obtain ⟨h1, h2⟩ := lvLe_sp lv' lv hl
  exact k H locs ls hP hD hS ⟨hL.1.trans h1.symm, hL.2.1, fun i v hi => hL.2.2 i v (h2 i v hi)⟩
theorem V_lconst0 (h : Good l G own nm cc nL rm K) (hd : decode cc pc = .ok (.lconst 0, 1)) (k : V K cs (pc + 1) lv (.long (lZ 0) :: st) ws) : V K cs pc lv st ws := V_lconst h hd k
theorem V_lconst1 (h : Good l G own nm cc nL rm K) (hd : decode cc pc = .ok (.lconst 1, 1)) (k : V K cs (pc + 1) lv (.long (lZ 1) :: st) ws) : V K cs pc lv st ws := V_lconst h hd k
theorem V_perm {is : List Nat} (hpk : Pk is ws ws') (hnd : va_nd is = true) (k : V K cs pc lv st ws') : V K cs pc lv st ws := fun H locs ls hP hD hS hL => k H locs ls (Pk_P hpk hP) (hD.sub is hnd hpk) hS hL
def cpyF (f g : Int → Int) (sp dp n : Int) : Int → Int := fun j => if dp ≤ j ∧ j < dp + n then f (sp + (j - dp)) else g j
theorem clN {i : Int} (h : 0 ≤ i ∧ i < 2147483648) : (iZ i).toNatClampNeg = i.toNat := by
  unfold Int32.toNatClampNeg
  rw [iZ_toInt ⟨by omega, h.2⟩]
theorem nlt0 {i : Int} (h : 0 ≤ i ∧ i < 2147483648) : ¬ iZ i < 0 := by
  rw [← iZ_0, iZ_lt ⟨by omega, h.2⟩ (by decide)]
  omega
theorem V_copyi (h : Good l G own nm cc nL rm K) (q0 q1 : Nat) {a0 a n0 n1 idx : Nat} {f g : Int → Int} {sp dp n : Int} (h0 : ws[q0]? = some (a0, .inl (G.2 0, n0, .inl (iF f)))) (h1 : ws[q1]? = some (a, .inl (G.2 0, n1, .inl (iF g)))) (hr : 0 ≤ sp ∧ 0 ≤ dp ∧ 0 ≤ n ∧ sp + n ≤ (n0 : Int) ∧ dp + n ≤ (n1 : Int) ∧ (n0 : Int) < 2147483648 ∧ (n1 : Int) < 2147483648) (hm : Cond.methodLink own idx arraycopyName ∈ lw_all) (hd : decode cc pc = .ok (.invokestatic idx, 3)) (hws : ws.set q1 (a, .inl (G.2 0, n1, .inl (iF (cpyF f g sp dp n)))) = ws') (hrm : 1 ≤ rm.frames ∧ (st.map fun v => v.category).sum + 18 ≤ rm.locals) (hlv : lv.length = nL) (k : V K cs (pc + 3) lv st ws') : V K cs pc lv (.int (iZ n) :: .int (iZ dp) :: .ref a :: .int (iZ sp) :: .ref a0 :: st) ws := by
  intro H locs ls hP hD hS hL
  have hG := h.2.2.2.2.2.2.2.2.2.1
  subst hG
  subst hws
  have e1 := clN (i := sp) ⟨hr.1, by omega⟩
  have e2 := clN (i := dp) ⟨hr.2.1, by omega⟩
  have e3 := clN (i := n) ⟨hr.2.2.1, by omega⟩
  have hc : va_cpy (iF f) (iF g) (iZ sp).toNatClampNeg (iZ dp).toNatClampNeg (iZ n).toNatClampNeg = iF (cpyF f g sp dp n) := by
    rw [e1, e2, e3]
    funext j
    unfold va_cpy iF cpyF
    by_cases hj : dp ≤ (j : Int) ∧ (j : Int) < dp + n
    · rw [if_pos (show dp.toNat ≤ j ∧ j < dp.toNat + n.toNat by omega), if_pos hj]
      rw [show ((sp.toNat + (j - dp.toNat) : Nat) : Int) = sp + ((j : Int) - dp) by omega]
    · rw [if_neg (show ¬ (dp.toNat ≤ j ∧ j < dp.toNat + n.toNat) by omega), if_neg hj]
  obtain ⟨hx, hb, hml, hown, hts, hKK, hA, hnm, hl, -, hR⟩ := h
  subst hR
  refine va_copyi hx hb (hml.trans (hL.1.trans hlv).symm) hown (hts _ hm) (hts _ q2_52) (hts _ q2_51) (hts _ q1_12) hKK.1 hP hD hS q0 q1 0 0 h0 h1 rfl rfl rfl (nlt0 ⟨hr.1, by omega⟩) (nlt0 ⟨hr.2.1, by omega⟩) (nlt0 ⟨hr.2.2.1, by omega⟩) (by rw [e1, e3]; omega) (by rw [e2, e3]; omega) (fun _ _ => rfl) hrm.1 (by have := hrm.2; show _ + (7 + 11) ≤ _; omega) hd (fun H locs hP hD hS => ?_)
  rw [hc] at hP hD
  exact k H locs ls hP hD hS hL
theorem V_aald (h : Good l G own nm cc nL rm K) {a n b : Nat} {f : Nat → Option Nat} {i : Int} {cA : ClassId} {C : String} (q t0 : Nat) (he : ws[q]? = some (a, .inl (cA, n, .inr (.inr (.inr (.inr f)))))) (ht : (tysOf G)[t0]? = some (cA, .object C)) (hr : In31 i n) (hf : f i.toNat = some b) (hd : decode cc pc = .ok (.aaload, 1)) (kk : V K cs (pc + 1) lv (.ref b :: st) ws) : V K cs pc lv (.int (iZ i) :: .ref a :: st) ws := by
  intro H locs ls hP hD hS hL
  have hG := h.2.2.2.2.2.2.2.2.2.1
  subst hG
  refine va_aldq h.1 h.2.1 h.2.2.2.2.2.1.1 hP q t0 he ht hr.vp hd ?_
  rw [clN ⟨hr.1, by have := hr.2.1; have := hr.2.2; omega⟩, hf]
  exact kk H locs ls hP hD hS hL
theorem V_aast (h : Good l G own nm cc nL rm K) {a n v ci : Nat} {f : Nat → Option Nat} {i : Int} {cA : ClassId} {r : vw_C} {vs : List Value} (q t0 qk : Nat) (he : ws[q]? = some (a, .inl (cA, n, .inr (.inr (.inr (.inr f)))))) (ht : (tysOf G)[t0]? = some (cA, .object r.1)) (hv : ws[qk]? = some (v, .inr (ci, vs))) (hc : vwCl[ci]? = some r) (hr : In31 i n) (hws : ws.set q (a, .inl (cA, n, .inr (.inr (.inr (.inr (va_up f i.toNat (some v))))))) = ws') (hd : decode cc pc = .ok (.aastore, 1)) (kk : V K cs (pc + 1) lv st ws') : V K cs pc lv (.ref v :: .int (iZ i) :: .ref a :: st) ws := by
  intro H locs ls hP hD hS hL
  have hG := h.2.2.2.2.2.2.2.2.2.1
  subst hG
  subst hws
  have e := clN (i := i) ⟨hr.1, by have := hr.2.1; have := hr.2.2; omega⟩
  refine va_astq h.1 h.2.1 h.2.2.2.2.2.1.1 hP hD hS q t0 qk ci he ht hv hc hr.vp hd (fun H locs hP hD hS => ?_)
  rw [e] at hP hD
  exact kk H locs ls hP hD hS hL
end ROWS3
